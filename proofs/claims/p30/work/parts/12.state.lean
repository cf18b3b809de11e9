def f_X4_copyFrom (σ : Blk) (τ : Blk) : Option (Blk) :=
  (f_X5_copyRow 6 6 (τ 1) (σ 1)).bind fun q8 => lt (upR σ 1 q8) fun m8 => (f_X5_copyRow 6 6 (τ 2) (m8 2)).bind fun q19 => lt (upR m8 2 q19) fun m19 => (f_X5_copyRow 12 12 (τ 3) (m19 3)).bind fun q30 => lt (upR m19 3 q30) fun m30 => (f_X5_copyRow 12 12 (τ 4) (m30 4)).bind fun q41 => lt (upR m30 4 q41) fun m41 => (f_X5_copyRow 12 12 (τ 5) (m41 5)).bind fun q52 => lt (upR m41 5 q52) fun m52 => (f_X5_copyRow 12 12 (τ 6) (m52 6)).bind fun q63 => lt (upR m52 6 q63) fun m63 => (f_X1_copyFrom m63 τ).bind fun q74 => lt (up q74 0 0 (τ 0 0)) fun m82 => lt (up m82 0 1 (τ 0 1)) fun m90 => lt (up m90 0 2 (τ 0 2)) fun m98 => lt (up m98 0 3 (τ 0 3)) fun m106 => some m106
set_option maxHeartbeats 4000000 in
set_option maxRecDepth 100000 in
theorem c_X4_copyFrom (l : Launch) (g : Gl) (a : Nat → Nat) (a2 : Nat → Nat) (σ : Blk) (τ : Blk) {res : Blk} (h : f_X4_copyFrom σ τ = some res) : Ok l g yX4_copyFrom cX4_copyFrom 2 (Option.none : Option FieldType) 2 43 [.ref (a 0), .ref (a2 0)] (wSt g a σ ++ wSt g a2 τ) none (wSt g a res ++ wSt g a2 τ) := by
  refine Ok.of RX4 (by decide) rfl (Nat.le_of_ble_eq_true rfl) (fun x hl hg X F => ?_)
  subst hg; subst hl
  rw [f_X4_copyFrom] at h
  show V x (wSt x.g a σ ++ wSt x.g a2 τ) [(0, .ref (a 0)), (1, .ref (a2 0))] [] 0
  refine v_aload_n X (pc := 0) dX4_copyFrom_0 rfl 1 rfl ?_
  refine v_get X (pc := 1) (v := .ref (a2 1)) uw4 12 rfl rfl 0 (by decide) q_58 rfl rfl dX4_copyFrom_1 ?_
  refine v_aload_n X (pc := 4) dX4_copyFrom_4 rfl 0 rfl ?_
  refine v_get X (pc := 5) (v := .ref (a 1)) uw4 0 rfl rfl 0 (by decide) q_58 rfl rfl dX4_copyFrom_5 ?_
  obtain ⟨q8, e8, h⟩ := ob h
  obtain ⟨m8, em8, h⟩ := lts h
  refine v_callSN X (pc := 8) (st1 := []) (w' := (wSt x.g a m8 ++ wSt x.g a2 τ)) [.ref (a2 1), .ref (a 1)] [] (c_X5_copyRow x.l x.g (a2 1) (a 1) 6 6 (τ 1) (σ 1) e8) rfl rfl cw_X5_copyRow k_21 q_201 ⟨by decide, by decide⟩ (by rw [← em8]; exact (Fr.of [13, 1] rfl rfl rfl rfl rfl)) rfl (Nat.le_of_ble_eq_true rfl) dX4_copyFrom_8 ?_
  refine v_aload_n X (pc := 11) dX4_copyFrom_11 rfl 1 rfl ?_
  refine v_get X (pc := 12) (v := .ref (a2 2)) uw4 12 rfl rfl 1 (by decide) q_60 rfl rfl dX4_copyFrom_12 ?_
  refine v_aload_n X (pc := 15) dX4_copyFrom_15 rfl 0 rfl ?_
  refine v_get X (pc := 16) (v := .ref (a 2)) uw4 0 rfl rfl 1 (by decide) q_60 rfl rfl dX4_copyFrom_16 ?_
  obtain ⟨q19, e19, h⟩ := ob h
  obtain ⟨m19, em19, h⟩ := lts h
  refine v_callSN X (pc := 19) (st1 := []) (w' := (wSt x.g a m19 ++ wSt x.g a2 τ)) [.ref (a2 2), .ref (a 2)] [] (c_X5_copyRow x.l x.g (a2 2) (a 2) 6 6 (τ 2) (m8 2) e19) rfl rfl cw_X5_copyRow k_21 q_201 ⟨by decide, by decide⟩ (by rw [← em19]; exact (Fr.of [14, 2] rfl rfl rfl rfl rfl)) rfl (Nat.le_of_ble_eq_true rfl) dX4_copyFrom_19 ?_
  refine v_aload_n X (pc := 22) dX4_copyFrom_22 rfl 1 rfl ?_
  refine v_get X (pc := 23) (v := .ref (a2 3)) uw4 12 rfl rfl 2 (by decide) q_62 rfl rfl dX4_copyFrom_23 ?_
  refine v_aload_n X (pc := 26) dX4_copyFrom_26 rfl 0 rfl ?_
  refine v_get X (pc := 27) (v := .ref (a 3)) uw4 0 rfl rfl 2 (by decide) q_62 rfl rfl dX4_copyFrom_27 ?_
  obtain ⟨q30, e30, h⟩ := ob h
  obtain ⟨m30, em30, h⟩ := lts h
  refine v_callSN X (pc := 30) (st1 := []) (w' := (wSt x.g a m30 ++ wSt x.g a2 τ)) [.ref (a2 3), .ref (a 3)] [] (c_X5_copyRow x.l x.g (a2 3) (a 3) 12 12 (τ 3) (m19 3) e30) rfl rfl cw_X5_copyRow k_21 q_201 ⟨by decide, by decide⟩ (by rw [← em30]; exact (Fr.of [15, 3] rfl rfl rfl rfl rfl)) rfl (Nat.le_of_ble_eq_true rfl) dX4_copyFrom_30 ?_
  refine v_aload_n X (pc := 33) dX4_copyFrom_33 rfl 1 rfl ?_
  refine v_get X (pc := 34) (v := .ref (a2 4)) uw4 12 rfl rfl 3 (by decide) q_64 rfl rfl dX4_copyFrom_34 ?_
  refine v_aload_n X (pc := 37) dX4_copyFrom_37 rfl 0 rfl ?_
  refine v_get X (pc := 38) (v := .ref (a 4)) uw4 0 rfl rfl 3 (by decide) q_64 rfl rfl dX4_copyFrom_38 ?_
  obtain ⟨q41, e41, h⟩ := ob h
  obtain ⟨m41, em41, h⟩ := lts h
  refine v_callSN X (pc := 41) (st1 := []) (w' := (wSt x.g a m41 ++ wSt x.g a2 τ)) [.ref (a2 4), .ref (a 4)] [] (c_X5_copyRow x.l x.g (a2 4) (a 4) 12 12 (τ 4) (m30 4) e41) rfl rfl cw_X5_copyRow k_21 q_201 ⟨by decide, by decide⟩ (by rw [← em41]; exact (Fr.of [16, 4] rfl rfl rfl rfl rfl)) rfl (Nat.le_of_ble_eq_true rfl) dX4_copyFrom_41 ?_
  refine v_aload_n X (pc := 44) dX4_copyFrom_44 rfl 1 rfl ?_
  refine v_get X (pc := 45) (v := .ref (a2 5)) uw4 12 rfl rfl 4 (by decide) q_66 rfl rfl dX4_copyFrom_45 ?_
  refine v_aload_n X (pc := 48) dX4_copyFrom_48 rfl 0 rfl ?_
  refine v_get X (pc := 49) (v := .ref (a 5)) uw4 0 rfl rfl 4 (by decide) q_66 rfl rfl dX4_copyFrom_49 ?_
  obtain ⟨q52, e52, h⟩ := ob h
  obtain ⟨m52, em52, h⟩ := lts h
  refine v_callSN X (pc := 52) (st1 := []) (w' := (wSt x.g a m52 ++ wSt x.g a2 τ)) [.ref (a2 5), .ref (a 5)] [] (c_X5_copyRow x.l x.g (a2 5) (a 5) 12 12 (τ 5) (m41 5) e52) rfl rfl cw_X5_copyRow k_21 q_201 ⟨by decide, by decide⟩ (by rw [← em52]; exact (Fr.of [17, 5] rfl rfl rfl rfl rfl)) rfl (Nat.le_of_ble_eq_true rfl) dX4_copyFrom_52 ?_
  refine v_aload_n X (pc := 55) dX4_copyFrom_55 rfl 1 rfl ?_
  refine v_get X (pc := 56) (v := .ref (a2 6)) uw4 12 rfl rfl 5 (by decide) q_68 rfl rfl dX4_copyFrom_56 ?_
  refine v_aload_n X (pc := 59) dX4_copyFrom_59 rfl 0 rfl ?_
  refine v_get X (pc := 60) (v := .ref (a 6)) uw4 0 rfl rfl 5 (by decide) q_68 rfl rfl dX4_copyFrom_60 ?_
  obtain ⟨q63, e63, h⟩ := ob h
  obtain ⟨m63, em63, h⟩ := lts h
  refine v_callSN X (pc := 63) (st1 := []) (w' := (wSt x.g a m63 ++ wSt x.g a2 τ)) [.ref (a2 6), .ref (a 6)] [] (c_X5_copyRow x.l x.g (a2 6) (a 6) 12 12 (τ 6) (m52 6) e63) rfl rfl cw_X5_copyRow k_21 q_201 ⟨by decide, by decide⟩ (by rw [← em63]; exact (Fr.of [18, 6] rfl rfl rfl rfl rfl)) rfl (Nat.le_of_ble_eq_true rfl) dX4_copyFrom_63 ?_
  refine v_aload_n X (pc := 66) dX4_copyFrom_66 rfl 0 rfl ?_
  refine v_get X (pc := 67) (v := .ref (a 11)) uw4 0 rfl rfl 6 (by decide) q_70 rfl rfl dX4_copyFrom_67 ?_
  refine v_aload_n X (pc := 70) dX4_copyFrom_70 rfl 1 rfl ?_
  refine v_get X (pc := 71) (v := .ref (a2 11)) uw4 12 rfl rfl 6 (by decide) q_70 rfl rfl dX4_copyFrom_71 ?_
  obtain ⟨q74, e74, h⟩ := ob h
  refine v_callV X (pc := 74) (st1 := []) (w' := (wSt x.g a q74 ++ wSt x.g a2 τ)) [.ref (a2 11)] [] (c_X1_copyFrom x.l x.g a a2 m63 τ e74) rfl rfl cw_X1_copyFrom q_203 q_204 q_205 ⟨by decide, by decide⟩ 11 1 rfl rfl rfl (Fr.all rfl) rfl (Nat.le_of_ble_eq_true rfl) dX4_copyFrom_74 ?_
  refine v_aload_n X (pc := 77) dX4_copyFrom_77 rfl 0 rfl ?_
  refine v_aload_n X (pc := 78) dX4_copyFrom_78 rfl 1 rfl ?_
  refine v_get X (pc := 79) (v := .int (τ 0 0)) uw4 12 rfl rfl 7 (by decide) q_72 rfl rfl dX4_copyFrom_79 ?_
  obtain ⟨m82, em82, h⟩ := lts h
  refine v_put X (pc := 82) (w' := (wSt x.g a m82 ++ wSt x.g a2 τ)) uw4 0 rfl rfl 7 (by decide) q_72 rfl tyX4 tyX4_ok nmX4 rfl rfl rfl (Nat.le_of_ble_eq_true rfl) (by rw [← em82]; rfl) dX4_copyFrom_82 ?_
  refine v_aload_n X (pc := 85) dX4_copyFrom_85 rfl 0 rfl ?_
  refine v_aload_n X (pc := 86) dX4_copyFrom_86 rfl 1 rfl ?_
  refine v_get X (pc := 87) (v := .int (τ 0 1)) uw4 12 rfl rfl 8 (by decide) q_75 rfl rfl dX4_copyFrom_87 ?_
  obtain ⟨m90, em90, h⟩ := lts h
  refine v_put X (pc := 90) (w' := (wSt x.g a m90 ++ wSt x.g a2 τ)) uw4 0 rfl rfl 8 (by decide) q_75 rfl tyX4 tyX4_ok nmX4 rfl rfl rfl (Nat.le_of_ble_eq_true rfl) (by rw [← em90]; rfl) dX4_copyFrom_90 ?_
  refine v_aload_n X (pc := 93) dX4_copyFrom_93 rfl 0 rfl ?_
  refine v_aload_n X (pc := 94) dX4_copyFrom_94 rfl 1 rfl ?_
  refine v_get X (pc := 95) (v := .int (τ 0 2)) uw4 12 rfl rfl 9 (by decide) q_78 rfl rfl dX4_copyFrom_95 ?_
  obtain ⟨m98, em98, h⟩ := lts h
  refine v_put X (pc := 98) (w' := (wSt x.g a m98 ++ wSt x.g a2 τ)) uw4 0 rfl rfl 9 (by decide) q_78 rfl tyX4 tyX4_ok nmX4 rfl rfl rfl (Nat.le_of_ble_eq_true rfl) (by rw [← em98]; rfl) dX4_copyFrom_98 ?_
  refine v_aload_n X (pc := 101) dX4_copyFrom_101 rfl 0 rfl ?_
  refine v_aload_n X (pc := 102) dX4_copyFrom_102 rfl 1 rfl ?_
  refine v_get X (pc := 103) (v := .int (τ 0 3)) uw4 12 rfl rfl 10 (by decide) q_80 rfl rfl dX4_copyFrom_103 ?_
  obtain ⟨m106, em106, h⟩ := lts h
  refine v_put X (pc := 106) (w' := (wSt x.g a m106 ++ wSt x.g a2 τ)) uw4 0 rfl rfl 10 (by decide) q_80 rfl tyX4 tyX4_ok nmX4 rfl rfl rfl (Nat.le_of_ble_eq_true rfl) (by rw [← em106]; rfl) dX4_copyFrom_106 ?_
  replace h := oi h
  subst h
  exact v_vret X (pc := 109) F dX4_copyFrom_109
theorem cw_X4_copyFrom : CwB yX4_copyFrom cX4_copyFrom 2 (Option.none : Option FieldType) 1 := ⟨q_199, q_15, by decide, by decide, by decide +kernel⟩
def f_X4_hasStile (σ : Blk) (x1 : Int32) : Bool :=
  (if x1 < 0 then false else (if (σ 0 0) ≤ x1 then false else true))
set_option maxHeartbeats 4000000 in
set_option maxRecDepth 100000 in
theorem c_X4_hasStile (l : Launch) (g : Gl) (a : Nat → Nat) (σ : Blk) (x1 : Int32) {res : Bool} (h : f_X4_hasStile σ x1 = res) : Ok l g yX4_hasStile cX4_hasStile 2 (Option.some FieldType.boolean) 0 0 [.ref (a 0), .int x1] (wSt g a σ) (some (.int (b2i res))) (wSt g a σ) := by
  refine Ok.of RX4 (by decide) rfl (Nat.le_of_ble_eq_true rfl) (fun x hl hg X F => ?_)
  subst hg; subst hl
  rw [f_X4_hasStile] at h
  show V x (wSt x.g a σ) [(0, .ref (a 0)), (1, .int x1)] [] 0
  refine v_iload_n X (pc := 0) dX4_hasStile_0 rfl 1 rfl ?_
  refine v_iflt X (pc := 1) (tgt := 16) dX4_hasStile_1 (by decide) (fun c => ?_) (fun c => ?_)
  · replace h := hp c h
    refine v_iconst X (pc := 16) (v := 0) dX4_hasStile_16 (by decide) ?_
    subst h
    exact v_bret X (pc := 17) (b := false) F dX4_hasStile_17
  · replace h := hn c h
    refine v_iload_n X (pc := 4) dX4_hasStile_4 rfl 1 rfl ?_
    refine v_aload_n X (pc := 5) dX4_hasStile_5 rfl 0 rfl ?_
    refine v_get X (pc := 6) (v := .int (σ 0 0)) uw4 0 rfl rfl 7 (by decide) q_72 rfl rfl dX4_hasStile_6 ?_
    refine v_icmpge X (pc := 9) (tgt := 16) dX4_hasStile_9 (by decide) (fun c => ?_) (fun c => ?_)
    · replace h := hp c h
      refine v_iconst X (pc := 16) (v := 0) dX4_hasStile_16 (by decide) ?_
      subst h
      exact v_bret X (pc := 17) (b := false) F dX4_hasStile_17
    · replace h := hn c h
      refine v_iconst X (pc := 12) (v := 1) dX4_hasStile_12 (by decide) ?_
      refine v_goto X (pc := 13) (tgt := 17) dX4_hasStile_13 (by decide) ?_
      subst h
      exact v_bret X (pc := 17) (b := true) F dX4_hasStile_17
theorem cw_X4_hasStile : CwB yX4_hasStile cX4_hasStile 2 (Option.some FieldType.boolean) 1 := ⟨q_239, q_15, by decide, by decide, by decide +kernel⟩
def f_X4_putUp (σ : Blk) (x1 : Int32) (x2 : Int32) : Option (Int32 × Blk) :=
  (f_X5_put 12 (σ 3) (σ 0 0) x1).bind fun q11 => lt (upR σ 3 q11) fun m11 => (f_X5_put 12 (m11 4) (σ 0 0) x2).bind fun q20 => lt (upR m11 4 q20) fun m20 => lt (up m20 0 0 ((σ 0 0) + 1)) fun m27 => some ((σ 0 0), m27)
set_option maxHeartbeats 4000000 in
set_option maxRecDepth 100000 in
theorem c_X4_putUp (l : Launch) (g : Gl) (a : Nat → Nat) (σ : Blk) (x1 : Int32) (x2 : Int32) {res : Int32 × Blk} (h : f_X4_putUp σ x1 x2 = some res) : Ok l g yX4_putUp cX4_putUp 4 (Option.some FieldType.int) 1 22 [.ref (a 0), .int x1, .int x2] (wSt g a σ) (some (.int res.1)) (wSt g a res.2) := by
  refine Ok.of RX4 (by decide) rfl (Nat.le_of_ble_eq_true rfl) (fun x hl hg X F => ?_)
  subst hg; subst hl
  rw [f_X4_putUp] at h
  show V x (wSt x.g a σ) [(0, .ref (a 0)), (1, .int x1), (2, .int x2)] [] 0
  refine v_aload_n X (pc := 0) dX4_putUp_0 rfl 0 rfl ?_
  refine v_get X (pc := 1) (v := .int (σ 0 0)) uw4 0 rfl rfl 7 (by decide) q_72 rfl rfl dX4_putUp_1 ?_
  refine v_istore_n X (pc := 4) (L2 := [(3, .int (σ 0 0)), (0, .ref (a 0)), (1, .int x1), (2, .int x2)]) dX4_putUp_4 rfl (by decide) rfl ?_
  refine v_aload_n X (pc := 5) dX4_putUp_5 rfl 1 rfl ?_
  refine v_get X (pc := 6) (v := .ref (a 3)) uw4 0 rfl rfl 2 (by decide) q_62 rfl rfl dX4_putUp_6 ?_
  refine v_iload_n X (pc := 9) dX4_putUp_9 rfl 0 rfl ?_
  refine v_iload_n X (pc := 10) dX4_putUp_10 rfl 2 rfl ?_
  obtain ⟨q11, e11, h⟩ := ob h
  obtain ⟨m11, em11, h⟩ := lts h
  refine v_callSN X (pc := 11) (st1 := []) (w' := (wSt x.g a m11)) [.ref (a 3), .int (σ 0 0), .int x1] [] (c_X5_put x.l x.g (a 3) 12 (σ 3) (σ 0 0) x1 e11) rfl rfl cw_X5_put k_26 q_329 ⟨by decide, by decide⟩ (by rw [← em11]; exact (Fr.of [3] rfl rfl rfl rfl rfl)) rfl (Nat.le_of_ble_eq_true rfl) dX4_putUp_11 ?_
  refine v_aload_n X (pc := 14) dX4_putUp_14 rfl 1 rfl ?_
  refine v_get X (pc := 15) (v := .ref (a 4)) uw4 0 rfl rfl 3 (by decide) q_64 rfl rfl dX4_putUp_15 ?_
  refine v_iload_n X (pc := 18) dX4_putUp_18 rfl 0 rfl ?_
  refine v_iload_n X (pc := 19) dX4_putUp_19 rfl 3 rfl ?_
  obtain ⟨q20, e20, h⟩ := ob h
  obtain ⟨m20, em20, h⟩ := lts h
  refine v_callSN X (pc := 20) (st1 := []) (w' := (wSt x.g a m20)) [.ref (a 4), .int (σ 0 0), .int x2] [] (c_X5_put x.l x.g (a 4) 12 (m11 4) (σ 0 0) x2 e20) rfl rfl cw_X5_put k_26 q_329 ⟨by decide, by decide⟩ (by rw [← em20]; exact (Fr.of [4] rfl rfl rfl rfl rfl)) rfl (Nat.le_of_ble_eq_true rfl) dX4_putUp_20 ?_
  refine v_aload_n X (pc := 23) dX4_putUp_23 rfl 1 rfl ?_
  refine v_iload_n X (pc := 24) dX4_putUp_24 rfl 0 rfl ?_
  refine v_iconst X (pc := 25) (v := 1) dX4_putUp_25 (by decide) ?_
  refine v_iadd X (pc := 26) dX4_putUp_26 ?_
  obtain ⟨m27, em27, h⟩ := lts h
  refine v_put X (pc := 27) (w' := (wSt x.g a m27)) uw4 0 rfl rfl 7 (by decide) q_72 rfl tyX4 tyX4_ok nmX4 rfl rfl rfl (Nat.le_of_ble_eq_true rfl) (by rw [← em27]; rfl) dX4_putUp_27 ?_
  refine v_iload_n X (pc := 30) dX4_putUp_30 rfl 0 rfl ?_
  replace h := oi h
  subst h
  exact v_iret X (pc := 31) F dX4_putUp_31
theorem cw_X4_putUp : CwB yX4_putUp cX4_putUp 4 (Option.some FieldType.int) 2 := ⟨q_327, q_15, by decide, by decide, by decide +kernel⟩
def f_X4_hallBehind (σ : Blk) (x1 : Int32) (x2 : Bool) : Option (Int32) :=
  (if x2 = true then (f_X5_at 12 (σ 3) x1).bind fun q9 => some q9 else (f_X5_at 12 (σ 4) x1).bind fun q20 => some q20)
set_option maxHeartbeats 4000000 in
set_option maxRecDepth 100000 in
theorem c_X4_hallBehind (l : Launch) (g : Gl) (a : Nat → Nat) (σ : Blk) (x1 : Int32) (x2 : Bool) {res : Int32} (h : f_X4_hallBehind σ x1 x2 = some res) : Ok l g yX4_hallBehind cX4_hallBehind 3 (Option.some FieldType.int) 1 21 [.ref (a 0), .int x1, .int (b2i x2)] (wSt g a σ) (some (.int res)) (wSt g a σ) := by
  refine Ok.of RX4 (by decide) rfl (Nat.le_of_ble_eq_true rfl) (fun x hl hg X F => ?_)
  subst hg; subst hl
  rw [f_X4_hallBehind] at h
  show V x (wSt x.g a σ) [(0, .ref (a 0)), (1, .int x1), (2, .int (b2i x2))] [] 0
  refine v_iload_n X (pc := 0) dX4_hallBehind_0 rfl 2 rfl ?_
  refine v_ifeqB X (pc := 1) (tgt := 15) dX4_hallBehind_1 (by decide) (fun c => ?_) (fun c => ?_)
  · replace h := hn (nbt c) h
    refine v_aload_n X (pc := 15) dX4_hallBehind_15 rfl 0 rfl ?_
    refine v_get X (pc := 16) (v := .ref (a 4)) uw4 0 rfl rfl 3 (by decide) q_64 rfl rfl dX4_hallBehind_16 ?_
    refine v_iload_n X (pc := 19) dX4_hallBehind_19 rfl 1 rfl ?_
    obtain ⟨q20, e20, h⟩ := ob h
    refine v_callSN X (pc := 20) (st1 := [.int q20]) (w' := (wSt x.g a σ)) [.ref (a 4), .int x1] [] (c_X5_at x.l x.g (a 4) 12 (σ 4) x1 e20) rfl rfl cw_X5_at k_23 q_221 ⟨by decide, by decide⟩ (Fr.of [4] rfl rfl rfl rfl rfl) rfl (Nat.le_of_ble_eq_true rfl) dX4_hallBehind_20 ?_
    replace h := oi h
    subst h
    exact v_iret X (pc := 23) F dX4_hallBehind_23
  · replace h := hp c h
    refine v_aload_n X (pc := 4) dX4_hallBehind_4 rfl 0 rfl ?_
    refine v_get X (pc := 5) (v := .ref (a 3)) uw4 0 rfl rfl 2 (by decide) q_62 rfl rfl dX4_hallBehind_5 ?_
    refine v_iload_n X (pc := 8) dX4_hallBehind_8 rfl 1 rfl ?_
    obtain ⟨q9, e9, h⟩ := ob h
    refine v_callSN X (pc := 9) (st1 := [.int q9]) (w' := (wSt x.g a σ)) [.ref (a 3), .int x1] [] (c_X5_at x.l x.g (a 3) 12 (σ 3) x1 e9) rfl rfl cw_X5_at k_23 q_221 ⟨by decide, by decide⟩ (Fr.of [3] rfl rfl rfl rfl rfl) rfl (Nat.le_of_ble_eq_true rfl) dX4_hallBehind_9 ?_
    refine v_goto X (pc := 12) (tgt := 23) dX4_hallBehind_12 (by decide) ?_
    replace h := oi h
    subst h
    exact v_iret X (pc := 23) F dX4_hallBehind_23
theorem cw_X4_hallBehind : CwB yX4_hallBehind cX4_hallBehind 3 (Option.some FieldType.int) 2 := ⟨q_438, q_15, by decide, by decide, by decide +kernel⟩
def f_X4_hallAhead (σ : Blk) (x1 : Int32) (x2 : Bool) : Option (Int32) :=
  (if x2 = true then (f_X4_hallBehind σ x1 false).bind fun q11 => some q11 else (f_X4_hallBehind σ x1 true).bind fun q11 => some q11)
set_option maxHeartbeats 4000000 in
set_option maxRecDepth 100000 in
theorem c_X4_hallAhead (l : Launch) (g : Gl) (a : Nat → Nat) (σ : Blk) (x1 : Int32) (x2 : Bool) {res : Int32} (h : f_X4_hallAhead σ x1 x2 = some res) : Ok l g yX4_hallAhead cX4_hallAhead 3 (Option.some FieldType.int) 2 43 [.ref (a 0), .int x1, .int (b2i x2)] (wSt g a σ) (some (.int res)) (wSt g a σ) := by
  refine Ok.of RX4 (by decide) rfl (Nat.le_of_ble_eq_true rfl) (fun x hl hg X F => ?_)
  subst hg; subst hl
  rw [f_X4_hallAhead] at h
  show V x (wSt x.g a σ) [(0, .ref (a 0)), (1, .int x1), (2, .int (b2i x2))] [] 0
  refine v_aload_n X (pc := 0) dX4_hallAhead_0 rfl 0 rfl ?_
  refine v_iload_n X (pc := 1) dX4_hallAhead_1 rfl 1 rfl ?_
  refine v_iload_n X (pc := 2) dX4_hallAhead_2 rfl 2 rfl ?_
  refine v_ifneB X (pc := 3) (tgt := 10) dX4_hallAhead_3 (by decide) (fun c => ?_) (fun c => ?_)
  · replace h := hp c h
    refine v_iconst X (pc := 10) (v := 0) dX4_hallAhead_10 (by decide) ?_
    obtain ⟨q11, e11, h⟩ := ob h
    refine v_callV X (pc := 11) (st1 := [.int q11]) (w' := (wSt x.g a σ)) [.int x1, .int (b2i false)] [] (c_X4_hallBehind x.l x.g a σ x1 false e11) rfl rfl cw_X4_hallBehind q_443 q_436 q_437 ⟨by decide, by decide⟩ 0 4 rfl rfl rfl (Fr.all rfl) rfl (Nat.le_of_ble_eq_true rfl) dX4_hallAhead_11 ?_
    replace h := oi h
    subst h
    exact v_iret X (pc := 14) F dX4_hallAhead_14
  · replace h := hn (nbt c) h
    refine v_iconst X (pc := 6) (v := 1) dX4_hallAhead_6 (by decide) ?_
    refine v_goto X (pc := 7) (tgt := 11) dX4_hallAhead_7 (by decide) ?_
    obtain ⟨q11, e11, h⟩ := ob h
    refine v_callV X (pc := 11) (st1 := [.int q11]) (w' := (wSt x.g a σ)) [.int x1, .int (b2i true)] [] (c_X4_hallBehind x.l x.g a σ x1 true e11) rfl rfl cw_X4_hallBehind q_443 q_436 q_437 ⟨by decide, by decide⟩ 0 4 rfl rfl rfl (Fr.all rfl) rfl (Nat.le_of_ble_eq_true rfl) dX4_hallAhead_11 ?_
    replace h := oi h
    subst h
    exact v_iret X (pc := 14) F dX4_hallAhead_14
theorem cw_X4_hallAhead : CwB yX4_hallAhead cX4_hallAhead 3 (Option.some FieldType.int) 2 := ⟨q_442, q_15, by decide, by decide, by decide +kernel⟩
def f_X4_goes (σ : Blk) (x1 : Int32) (x2 : Bool) : Option (Bool) :=
  (f_X5_at 12 (σ 5) x1).bind fun q5 => (if q5 = 0 then some true else (if x2 = true then (if q5 = 1 then some true else some false) else (if q5 = 2 then some true else some false)))
set_option maxHeartbeats 4000000 in
set_option maxRecDepth 100000 in
theorem c_X4_goes (l : Launch) (g : Gl) (a : Nat → Nat) (σ : Blk) (x1 : Int32) (x2 : Bool) {res : Bool} (h : f_X4_goes σ x1 x2 = some res) : Ok l g yX4_goes cX4_goes 4 (Option.some FieldType.boolean) 1 21 [.ref (a 0), .int x1, .int (b2i x2)] (wSt g a σ) (some (.int (b2i res))) (wSt g a σ) := by
  refine Ok.of RX4 (by decide) rfl (Nat.le_of_ble_eq_true rfl) (fun x hl hg X F => ?_)
  subst hg; subst hl
  rw [f_X4_goes] at h
  show V x (wSt x.g a σ) [(0, .ref (a 0)), (1, .int x1), (2, .int (b2i x2))] [] 0
  refine v_aload_n X (pc := 0) dX4_goes_0 rfl 0 rfl ?_
  refine v_get X (pc := 1) (v := .ref (a 5)) uw4 0 rfl rfl 4 (by decide) q_66 rfl rfl dX4_goes_1 ?_
  refine v_iload_n X (pc := 4) dX4_goes_4 rfl 1 rfl ?_
  obtain ⟨q5, e5, h⟩ := ob h
  refine v_callSN X (pc := 5) (st1 := [.int q5]) (w' := (wSt x.g a σ)) [.ref (a 5), .int x1] [] (c_X5_at x.l x.g (a 5) 12 (σ 5) x1 e5) rfl rfl cw_X5_at k_23 q_221 ⟨by decide, by decide⟩ (Fr.of [5] rfl rfl rfl rfl rfl) rfl (Nat.le_of_ble_eq_true rfl) dX4_goes_5 ?_
  refine v_istore_n X (pc := 8) (L2 := [(3, .int q5), (0, .ref (a 0)), (1, .int x1), (2, .int (b2i x2))]) dX4_goes_8 rfl (by decide) rfl ?_
  refine v_iload_n X (pc := 9) dX4_goes_9 rfl 0 rfl ?_
  refine v_ifeq X (pc := 10) (tgt := 26) dX4_goes_10 (by decide) (fun c => ?_) (fun c => ?_)
  · replace h := hp c h
    refine v_iconst X (pc := 26) (v := 1) dX4_goes_26 (by decide) ?_
    refine v_goto X (pc := 27) (tgt := 31) dX4_goes_27 (by decide) ?_
    replace h := oi h
    subst h
    exact v_bret X (pc := 31) (b := true) F dX4_goes_31
  · replace h := hn c h
    refine v_iload_n X (pc := 13) dX4_goes_13 rfl 0 rfl ?_
    refine v_iload_n X (pc := 14) dX4_goes_14 rfl 3 rfl ?_
    refine v_ifeqB X (pc := 15) (tgt := 22) dX4_goes_15 (by decide) (fun c => ?_) (fun c => ?_)
    · replace h := hn (nbt c) h
      refine v_iconst X (pc := 22) (v := 2) dX4_goes_22 (by decide) ?_
      refine v_icmpne X (pc := 23) (tgt := 30) dX4_goes_23 (by decide) (fun c => ?_) (fun c => ?_)
      · replace h := hn c h
        refine v_iconst X (pc := 30) (v := 0) dX4_goes_30 (by decide) ?_
        replace h := oi h
        subst h
        exact v_bret X (pc := 31) (b := false) F dX4_goes_31
      · replace h := hp c h
        refine v_iconst X (pc := 26) (v := 1) dX4_goes_26 (by decide) ?_
        refine v_goto X (pc := 27) (tgt := 31) dX4_goes_27 (by decide) ?_
        replace h := oi h
        subst h
        exact v_bret X (pc := 31) (b := true) F dX4_goes_31
    · replace h := hp c h
      refine v_iconst X (pc := 18) (v := 1) dX4_goes_18 (by decide) ?_
      refine v_goto X (pc := 19) (tgt := 23) dX4_goes_19 (by decide) ?_
      refine v_icmpne X (pc := 23) (tgt := 30) dX4_goes_23 (by decide) (fun c => ?_) (fun c => ?_)
      · replace h := hn c h
        refine v_iconst X (pc := 30) (v := 0) dX4_goes_30 (by decide) ?_
        replace h := oi h
        subst h
        exact v_bret X (pc := 31) (b := false) F dX4_goes_31
      · replace h := hp c h
        refine v_iconst X (pc := 26) (v := 1) dX4_goes_26 (by decide) ?_
        refine v_goto X (pc := 27) (tgt := 31) dX4_goes_27 (by decide) ?_
        replace h := oi h
        subst h
        exact v_bret X (pc := 31) (b := true) F dX4_goes_31
theorem cw_X4_goes : CwB yX4_goes cX4_goes 4 (Option.some FieldType.boolean) 2 := ⟨q_434, q_15, by decide, by decide, by decide +kernel⟩
def f_X4_isUnderRepair (σ : Blk) (x1 : Int32) : Option (Bool) :=
  (f_X5_at 12 (σ 6) x1).bind fun q5 => (if q5 ≤ 0 then some false else some true)
set_option maxHeartbeats 4000000 in
set_option maxRecDepth 100000 in
theorem c_X4_isUnderRepair (l : Launch) (g : Gl) (a : Nat → Nat) (σ : Blk) (x1 : Int32) {res : Bool} (h : f_X4_isUnderRepair σ x1 = some res) : Ok l g yX4_isUnderRepair cX4_isUnderRepair 2 (Option.some FieldType.boolean) 1 21 [.ref (a 0), .int x1] (wSt g a σ) (some (.int (b2i res))) (wSt g a σ) := by
  refine Ok.of RX4 (by decide) rfl (Nat.le_of_ble_eq_true rfl) (fun x hl hg X F => ?_)
  subst hg; subst hl
  rw [f_X4_isUnderRepair] at h
  show V x (wSt x.g a σ) [(0, .ref (a 0)), (1, .int x1)] [] 0
  refine v_aload_n X (pc := 0) dX4_isUnderRepair_0 rfl 0 rfl ?_
  refine v_get X (pc := 1) (v := .ref (a 6)) uw4 0 rfl rfl 5 (by decide) q_68 rfl rfl dX4_isUnderRepair_1 ?_
  refine v_iload_n X (pc := 4) dX4_isUnderRepair_4 rfl 1 rfl ?_
  obtain ⟨q5, e5, h⟩ := ob h
  refine v_callSN X (pc := 5) (st1 := [.int q5]) (w' := (wSt x.g a σ)) [.ref (a 6), .int x1] [] (c_X5_at x.l x.g (a 6) 12 (σ 6) x1 e5) rfl rfl cw_X5_at k_23 q_221 ⟨by decide, by decide⟩ (Fr.of [6] rfl rfl rfl rfl rfl) rfl (Nat.le_of_ble_eq_true rfl) dX4_isUnderRepair_5 ?_
  refine v_ifle X (pc := 8) (tgt := 15) dX4_isUnderRepair_8 (by decide) (fun c => ?_) (fun c => ?_)
  · replace h := hp c h
    refine v_iconst X (pc := 15) (v := 0) dX4_isUnderRepair_15 (by decide) ?_
    replace h := oi h
    subst h
    exact v_bret X (pc := 16) (b := false) F dX4_isUnderRepair_16
  · replace h := hn c h
    refine v_iconst X (pc := 11) (v := 1) dX4_isUnderRepair_11 (by decide) ?_
    refine v_goto X (pc := 12) (tgt := 16) dX4_isUnderRepair_12 (by decide) ?_
    replace h := oi h
    subst h
    exact v_bret X (pc := 16) (b := true) F dX4_isUnderRepair_16
theorem cw_X4_isUnderRepair : CwB yX4_isUnderRepair cX4_isUnderRepair 2 (Option.some FieldType.boolean) 1 := ⟨q_269, q_15, by decide, by decide, by decide +kernel⟩
def f_X4_readyToLeave (σ : Blk) (x1 : Int32) : Option (Int32) :=
  (if x1 = 0 then some 99 else (f_X5_at 6 (σ 2) x1).bind fun q16 => some (minF 99 q16))
set_option maxHeartbeats 4000000 in
set_option maxRecDepth 100000 in
theorem c_X4_readyToLeave (l : Launch) (g : Gl) (a : Nat → Nat) (σ : Blk) (x1 : Int32) {res : Int32} (h : f_X4_readyToLeave σ x1 = some res) : Ok l g yX4_readyToLeave cX4_readyToLeave 2 (Option.some FieldType.int) 1 21 [.ref (a 0), .int x1] (wSt g a σ) (some (.int res)) (wSt g a σ) := by
  refine Ok.of RX4 (by decide) rfl (Nat.le_of_ble_eq_true rfl) (fun x hl hg X F => ?_)
  subst hg; subst hl
  rw [f_X4_readyToLeave] at h
  show V x (wSt x.g a σ) [(0, .ref (a 0)), (1, .int x1)] [] 0
  refine v_iload_n X (pc := 0) dX4_readyToLeave_0 rfl 1 rfl ?_
  refine v_ifne X (pc := 1) (tgt := 9) dX4_readyToLeave_1 (by decide) (fun c => ?_) (fun c => ?_)
  · replace h := hn c h
    refine v_bipush X (pc := 9) (v := 99) dX4_readyToLeave_9 (by decide) ?_
    refine v_aload_n X (pc := 11) dX4_readyToLeave_11 rfl 0 rfl ?_
    refine v_get X (pc := 12) (v := .ref (a 2)) uw4 0 rfl rfl 1 (by decide) q_60 rfl rfl dX4_readyToLeave_12 ?_
    refine v_iload_n X (pc := 15) dX4_readyToLeave_15 rfl 1 rfl ?_
    obtain ⟨q16, e16, h⟩ := ob h
    refine v_callSN X (pc := 16) (st1 := [.int q16, .int 99]) (w' := (wSt x.g a σ)) [.ref (a 2), .int x1] [.int 99] (c_X5_at x.l x.g (a 2) 6 (σ 2) x1 e16) rfl rfl cw_X5_at k_23 q_221 ⟨by decide, by decide⟩ (Fr.of [2] rfl rfl rfl rfl rfl) rfl (Nat.le_of_ble_eq_true rfl) dX4_readyToLeave_16 ?_
    refine v_mmin X (pc := 19)  q_458 q_459 q_20 q_460 (by decide) (Nat.le_of_ble_eq_true rfl) dX4_readyToLeave_19 ?_
    replace h := oi h
    subst h
    exact v_iret X (pc := 22) F dX4_readyToLeave_22
  · replace h := hp c h
    refine v_bipush X (pc := 4) (v := 99) dX4_readyToLeave_4 (by decide) ?_
    refine v_goto X (pc := 6) (tgt := 22) dX4_readyToLeave_6 (by decide) ?_
    replace h := oi h
    subst h
    exact v_iret X (pc := 22) F dX4_readyToLeave_22
theorem cw_X4_readyToLeave : CwB yX4_readyToLeave cX4_readyToLeave 2 (Option.some FieldType.int) 1 := ⟨q_457, q_15, by decide, by decide, by decide +kernel⟩
def f_X4_roomLeft (σ : Blk) (x1 : Int32) : Option (Int32) :=
  (if x1 = 0 then some 99 else (f_X5_at 6 (σ 1) x1).bind fun q16 => (f_X5_at 6 (σ 2) x1).bind fun q24 => some (minF 99 (q16 - q24)))
set_option maxHeartbeats 4000000 in
set_option maxRecDepth 100000 in
theorem c_X4_roomLeft (l : Launch) (g : Gl) (a : Nat → Nat) (σ : Blk) (x1 : Int32) {res : Int32} (h : f_X4_roomLeft σ x1 = some res) : Ok l g yX4_roomLeft cX4_roomLeft 2 (Option.some FieldType.int) 1 21 [.ref (a 0), .int x1] (wSt g a σ) (some (.int res)) (wSt g a σ) := by
  refine Ok.of RX4 (by decide) rfl (Nat.le_of_ble_eq_true rfl) (fun x hl hg X F => ?_)
  subst hg; subst hl
  rw [f_X4_roomLeft] at h
  show V x (wSt x.g a σ) [(0, .ref (a 0)), (1, .int x1)] [] 0
  refine v_iload_n X (pc := 0) dX4_roomLeft_0 rfl 1 rfl ?_
  refine v_ifne X (pc := 1) (tgt := 9) dX4_roomLeft_1 (by decide) (fun c => ?_) (fun c => ?_)
  · replace h := hn c h
    refine v_bipush X (pc := 9) (v := 99) dX4_roomLeft_9 (by decide) ?_
    refine v_aload_n X (pc := 11) dX4_roomLeft_11 rfl 0 rfl ?_
    refine v_get X (pc := 12) (v := .ref (a 1)) uw4 0 rfl rfl 0 (by decide) q_58 rfl rfl dX4_roomLeft_12 ?_
    refine v_iload_n X (pc := 15) dX4_roomLeft_15 rfl 1 rfl ?_
    obtain ⟨q16, e16, h⟩ := ob h
    refine v_callSN X (pc := 16) (st1 := [.int q16, .int 99]) (w' := (wSt x.g a σ)) [.ref (a 1), .int x1] [.int 99] (c_X5_at x.l x.g (a 1) 6 (σ 1) x1 e16) rfl rfl cw_X5_at k_23 q_221 ⟨by decide, by decide⟩ (Fr.of [1] rfl rfl rfl rfl rfl) rfl (Nat.le_of_ble_eq_true rfl) dX4_roomLeft_16 ?_
    refine v_aload_n X (pc := 19) dX4_roomLeft_19 rfl 0 rfl ?_
    refine v_get X (pc := 20) (v := .ref (a 2)) uw4 0 rfl rfl 1 (by decide) q_60 rfl rfl dX4_roomLeft_20 ?_
    refine v_iload_n X (pc := 23) dX4_roomLeft_23 rfl 1 rfl ?_
    obtain ⟨q24, e24, h⟩ := ob h
    refine v_callSN X (pc := 24) (st1 := [.int q24, .int q16, .int 99]) (w' := (wSt x.g a σ)) [.ref (a 2), .int x1] [.int q16, .int 99] (c_X5_at x.l x.g (a 2) 6 (σ 2) x1 e24) rfl rfl cw_X5_at k_23 q_221 ⟨by decide, by decide⟩ (Fr.of [2] rfl rfl rfl rfl rfl) rfl (Nat.le_of_ble_eq_true rfl) dX4_roomLeft_24 ?_
    refine v_isub X (pc := 27) dX4_roomLeft_27 ?_
    refine v_mmin X (pc := 28)  q_458 q_459 q_20 q_460 (by decide) (Nat.le_of_ble_eq_true rfl) dX4_roomLeft_28 ?_
    replace h := oi h
    subst h
    exact v_iret X (pc := 31) F dX4_roomLeft_31
  · replace h := hp c h
    refine v_bipush X (pc := 4) (v := 99) dX4_roomLeft_4 (by decide) ?_
    refine v_goto X (pc := 6) (tgt := 31) dX4_roomLeft_6 (by decide) ?_
    replace h := oi h
    subst h
    exact v_iret X (pc := 31) F dX4_roomLeft_31
theorem cw_X4_roomLeft : CwB yX4_roomLeft cX4_roomLeft 2 (Option.some FieldType.int) 1 := ⟨q_465, q_15, by decide, by decide, by decide +kernel⟩
def f_X4_whyNot (σ : Blk) (x1 : Int32) (x2 : Bool) (x3 : Int32) : Option (Int32) :=
  (f_X4_isUnderRepair σ x1).bind fun q2 => (if q2 = true then some 1 else (f_X4_goes σ x1 x2).bind fun q13 => (if q13 = true then (f_X4_hallBehind σ x1 x2).bind fun q26 => (f_X4_readyToLeave σ q26).bind fun q29 => (if x3 ≤ q29 then (f_X4_hallAhead σ x1 x2).bind fun q42 => (f_X4_roomLeft σ q42).bind fun q45 => (if x3 ≤ q45 then some 0 else some 4) else some 3) else some 2))
set_option maxHeartbeats 4000000 in
set_option maxRecDepth 100000 in
theorem c_X4_whyNot (l : Launch) (g : Gl) (a : Nat → Nat) (σ : Blk) (x1 : Int32) (x2 : Bool) (x3 : Int32) {res : Int32} (h : f_X4_whyNot σ x1 x2 x3 = some res) : Ok l g yX4_whyNot cX4_whyNot 4 (Option.some FieldType.int) 3 65 [.ref (a 0), .int x1, .int (b2i x2), .int x3] (wSt g a σ) (some (.int res)) (wSt g a σ) := by
  refine Ok.of RX4 (by decide) rfl (Nat.le_of_ble_eq_true rfl) (fun x hl hg X F => ?_)
  subst hg; subst hl
  rw [f_X4_whyNot] at h
  show V x (wSt x.g a σ) [(0, .ref (a 0)), (1, .int x1), (2, .int (b2i x2)), (3, .int x3)] [] 0
  refine v_aload_n X (pc := 0) dX4_whyNot_0 rfl 0 rfl ?_
  refine v_iload_n X (pc := 1) dX4_whyNot_1 rfl 1 rfl ?_
  obtain ⟨q2, e2, h⟩ := ob h
  refine v_callV X (pc := 2) (st1 := [.int (b2i q2)]) (w' := (wSt x.g a σ)) [.int x1] [] (c_X4_isUnderRepair x.l x.g a σ x1 e2) rfl rfl cw_X4_isUnderRepair q_266 q_267 q_268 ⟨by decide, by decide⟩ 0 4 rfl rfl rfl (Fr.all rfl) rfl (Nat.le_of_ble_eq_true rfl) dX4_whyNot_2 ?_
  refine v_ifeqB X (pc := 5) (tgt := 10) dX4_whyNot_5 (by decide) (fun c => ?_) (fun c => ?_)
  · replace h := hn (nbt c) h
    refine v_aload_n X (pc := 10) dX4_whyNot_10 rfl 0 rfl ?_
    refine v_iload_n X (pc := 11) dX4_whyNot_11 rfl 1 rfl ?_
    refine v_iload_n X (pc := 12) dX4_whyNot_12 rfl 2 rfl ?_
    obtain ⟨q13, e13, h⟩ := ob h
    refine v_callV X (pc := 13) (st1 := [.int (b2i q13)]) (w' := (wSt x.g a σ)) [.int x1, .int (b2i x2)] [] (c_X4_goes x.l x.g a σ x1 x2 e13) rfl rfl cw_X4_goes q_453 q_432 q_433 ⟨by decide, by decide⟩ 0 4 rfl rfl rfl (Fr.all rfl) rfl (Nat.le_of_ble_eq_true rfl) dX4_whyNot_13 ?_
    refine v_ifneB X (pc := 16) (tgt := 21) dX4_whyNot_16 (by decide) (fun c => ?_) (fun c => ?_)
    · replace h := hp c h
      refine v_iload_n X (pc := 21) dX4_whyNot_21 rfl 3 rfl ?_
      refine v_aload_n X (pc := 22) dX4_whyNot_22 rfl 0 rfl ?_
      refine v_aload_n X (pc := 23) dX4_whyNot_23 rfl 0 rfl ?_
      refine v_iload_n X (pc := 24) dX4_whyNot_24 rfl 1 rfl ?_
      refine v_iload_n X (pc := 25) dX4_whyNot_25 rfl 2 rfl ?_
      obtain ⟨q26, e26, h⟩ := ob h
      refine v_callV X (pc := 26) (st1 := [.int q26, .ref (a 0), .int x3]) (w' := (wSt x.g a σ)) [.int x1, .int (b2i x2)] [.ref (a 0), .int x3] (c_X4_hallBehind x.l x.g a σ x1 x2 e26) rfl rfl cw_X4_hallBehind q_443 q_436 q_437 ⟨by decide, by decide⟩ 0 4 rfl rfl rfl (Fr.all rfl) rfl (Nat.le_of_ble_eq_true rfl) dX4_whyNot_26 ?_
      obtain ⟨q29, e29, h⟩ := ob h
      refine v_callV X (pc := 29) (st1 := [.int q29, .int x3]) (w' := (wSt x.g a σ)) [.int q26] [.int x3] (c_X4_readyToLeave x.l x.g a σ q26 e29) rfl rfl cw_X4_readyToLeave q_454 q_456 q_9 ⟨by decide, by decide⟩ 0 4 rfl rfl rfl (Fr.all rfl) rfl (Nat.le_of_ble_eq_true rfl) dX4_whyNot_29 ?_
      refine v_icmple X (pc := 32) (tgt := 37) dX4_whyNot_32 (by decide) (fun c => ?_) (fun c => ?_)
      · replace h := hp c h
        refine v_iload_n X (pc := 37) dX4_whyNot_37 rfl 3 rfl ?_
        refine v_aload_n X (pc := 38) dX4_whyNot_38 rfl 0 rfl ?_
        refine v_aload_n X (pc := 39) dX4_whyNot_39 rfl 0 rfl ?_
        refine v_iload_n X (pc := 40) dX4_whyNot_40 rfl 1 rfl ?_
        refine v_iload_n X (pc := 41) dX4_whyNot_41 rfl 2 rfl ?_
        obtain ⟨q42, e42, h⟩ := ob h
        refine v_callV X (pc := 42) (st1 := [.int q42, .ref (a 0), .int x3]) (w' := (wSt x.g a σ)) [.int x1, .int (b2i x2)] [.ref (a 0), .int x3] (c_X4_hallAhead x.l x.g a σ x1 x2 e42) rfl rfl cw_X4_hallAhead q_461 q_440 q_441 ⟨by decide, by decide⟩ 0 4 rfl rfl rfl (Fr.all rfl) rfl (Nat.le_of_ble_eq_true rfl) dX4_whyNot_42 ?_
        obtain ⟨q45, e45, h⟩ := ob h
        refine v_callV X (pc := 45) (st1 := [.int q45, .int x3]) (w' := (wSt x.g a σ)) [.int q42] [.int x3] (c_X4_roomLeft x.l x.g a σ q42 e45) rfl rfl cw_X4_roomLeft q_462 q_464 q_10 ⟨by decide, by decide⟩ 0 4 rfl rfl rfl (Fr.all rfl) rfl (Nat.le_of_ble_eq_true rfl) dX4_whyNot_45 ?_
        refine v_icmple X (pc := 48) (tgt := 55) dX4_whyNot_48 (by decide) (fun c => ?_) (fun c => ?_)
        · replace h := hp c h
          refine v_iconst X (pc := 55) (v := 0) dX4_whyNot_55 (by decide) ?_
          replace h := oi h
          subst h
          exact v_iret X (pc := 56) F dX4_whyNot_56
        · replace h := hn c h
          refine v_iconst X (pc := 51) (v := 4) dX4_whyNot_51 (by decide) ?_
          refine v_goto X (pc := 52) (tgt := 56) dX4_whyNot_52 (by decide) ?_
          replace h := oi h
          subst h
          exact v_iret X (pc := 56) F dX4_whyNot_56
      · replace h := hn c h
        refine v_iconst X (pc := 35) (v := 3) dX4_whyNot_35 (by decide) ?_
        replace h := oi h
        subst h
        exact v_iret X (pc := 36) F dX4_whyNot_36
    · replace h := hn (nbt c) h
      refine v_iconst X (pc := 19) (v := 2) dX4_whyNot_19 (by decide) ?_
      replace h := oi h
      subst h
      exact v_iret X (pc := 20) F dX4_whyNot_20
  · replace h := hp c h
    refine v_iconst X (pc := 8) (v := 1) dX4_whyNot_8 (by decide) ?_
    replace h := oi h
    subst h
    exact v_iret X (pc := 9) F dX4_whyNot_9
theorem cw_X4_whyNot : CwB yX4_whyNot cX4_whyNot 4 (Option.some FieldType.int) 3 := ⟨q_500, q_15, by decide, by decide, by decide +kernel⟩
def f_X4_mostThrough (σ : Blk) (x1 : Int32) (x2 : Bool) : Option (Int32) :=
  (f_X4_isUnderRepair σ x1).bind fun q2 => (if q2 = true then some 0 else (f_X4_goes σ x1 x2).bind fun q11 => (if q11 = true then (f_X4_hallBehind σ x1 x2).bind fun q23 => (f_X4_readyToLeave σ q23).bind fun q26 => (f_X4_hallAhead σ x1 x2).bind fun q33 => (f_X4_roomLeft σ q33).bind fun q36 => some (minF q26 q36) else some 0))
set_option maxHeartbeats 4000000 in
set_option maxRecDepth 100000 in
theorem c_X4_mostThrough (l : Launch) (g : Gl) (a : Nat → Nat) (σ : Blk) (x1 : Int32) (x2 : Bool) {res : Int32} (h : f_X4_mostThrough σ x1 x2 = some res) : Ok l g yX4_mostThrough cX4_mostThrough 3 (Option.some FieldType.int) 3 65 [.ref (a 0), .int x1, .int (b2i x2)] (wSt g a σ) (some (.int res)) (wSt g a σ) := by
  refine Ok.of RX4 (by decide) rfl (Nat.le_of_ble_eq_true rfl) (fun x hl hg X F => ?_)
  subst hg; subst hl
  rw [f_X4_mostThrough] at h
  show V x (wSt x.g a σ) [(0, .ref (a 0)), (1, .int x1), (2, .int (b2i x2))] [] 0
  refine v_aload_n X (pc := 0) dX4_mostThrough_0 rfl 0 rfl ?_
  refine v_iload_n X (pc := 1) dX4_mostThrough_1 rfl 1 rfl ?_
  obtain ⟨q2, e2, h⟩ := ob h
  refine v_callV X (pc := 2) (st1 := [.int (b2i q2)]) (w' := (wSt x.g a σ)) [.int x1] [] (c_X4_isUnderRepair x.l x.g a σ x1 e2) rfl rfl cw_X4_isUnderRepair q_266 q_267 q_268 ⟨by decide, by decide⟩ 0 4 rfl rfl rfl (Fr.all rfl) rfl (Nat.le_of_ble_eq_true rfl) dX4_mostThrough_2 ?_
  refine v_ifneB X (pc := 5) (tgt := 17) dX4_mostThrough_5 (by decide) (fun c => ?_) (fun c => ?_)
  · replace h := hp c h
    refine v_iconst X (pc := 17) (v := 0) dX4_mostThrough_17 (by decide) ?_
    replace h := oi h
    subst h
    exact v_iret X (pc := 18) F dX4_mostThrough_18
  · replace h := hn (nbt c) h
    refine v_aload_n X (pc := 8) dX4_mostThrough_8 rfl 0 rfl ?_
    refine v_iload_n X (pc := 9) dX4_mostThrough_9 rfl 1 rfl ?_
    refine v_iload_n X (pc := 10) dX4_mostThrough_10 rfl 2 rfl ?_
    obtain ⟨q11, e11, h⟩ := ob h
    refine v_callV X (pc := 11) (st1 := [.int (b2i q11)]) (w' := (wSt x.g a σ)) [.int x1, .int (b2i x2)] [] (c_X4_goes x.l x.g a σ x1 x2 e11) rfl rfl cw_X4_goes q_453 q_432 q_433 ⟨by decide, by decide⟩ 0 4 rfl rfl rfl (Fr.all rfl) rfl (Nat.le_of_ble_eq_true rfl) dX4_mostThrough_11 ?_
    refine v_ifneB X (pc := 14) (tgt := 19) dX4_mostThrough_14 (by decide) (fun c => ?_) (fun c => ?_)
    · replace h := hp c h
      refine v_aload_n X (pc := 19) dX4_mostThrough_19 rfl 0 rfl ?_
      refine v_aload_n X (pc := 20) dX4_mostThrough_20 rfl 0 rfl ?_
      refine v_iload_n X (pc := 21) dX4_mostThrough_21 rfl 1 rfl ?_
      refine v_iload_n X (pc := 22) dX4_mostThrough_22 rfl 2 rfl ?_
      obtain ⟨q23, e23, h⟩ := ob h
      refine v_callV X (pc := 23) (st1 := [.int q23, .ref (a 0)]) (w' := (wSt x.g a σ)) [.int x1, .int (b2i x2)] [.ref (a 0)] (c_X4_hallBehind x.l x.g a σ x1 x2 e23) rfl rfl cw_X4_hallBehind q_443 q_436 q_437 ⟨by decide, by decide⟩ 0 4 rfl rfl rfl (Fr.all rfl) rfl (Nat.le_of_ble_eq_true rfl) dX4_mostThrough_23 ?_
      obtain ⟨q26, e26, h⟩ := ob h
      refine v_callV X (pc := 26) (st1 := [.int q26]) (w' := (wSt x.g a σ)) [.int q23] [] (c_X4_readyToLeave x.l x.g a σ q23 e26) rfl rfl cw_X4_readyToLeave q_454 q_456 q_9 ⟨by decide, by decide⟩ 0 4 rfl rfl rfl (Fr.all rfl) rfl (Nat.le_of_ble_eq_true rfl) dX4_mostThrough_26 ?_
      refine v_aload_n X (pc := 29) dX4_mostThrough_29 rfl 0 rfl ?_
      refine v_aload_n X (pc := 30) dX4_mostThrough_30 rfl 0 rfl ?_
      refine v_iload_n X (pc := 31) dX4_mostThrough_31 rfl 1 rfl ?_
      refine v_iload_n X (pc := 32) dX4_mostThrough_32 rfl 2 rfl ?_
      obtain ⟨q33, e33, h⟩ := ob h
      refine v_callV X (pc := 33) (st1 := [.int q33, .ref (a 0), .int q26]) (w' := (wSt x.g a σ)) [.int x1, .int (b2i x2)] [.ref (a 0), .int q26] (c_X4_hallAhead x.l x.g a σ x1 x2 e33) rfl rfl cw_X4_hallAhead q_461 q_440 q_441 ⟨by decide, by decide⟩ 0 4 rfl rfl rfl (Fr.all rfl) rfl (Nat.le_of_ble_eq_true rfl) dX4_mostThrough_33 ?_
      obtain ⟨q36, e36, h⟩ := ob h
      refine v_callV X (pc := 36) (st1 := [.int q36, .int q26]) (w' := (wSt x.g a σ)) [.int q33] [.int q26] (c_X4_roomLeft x.l x.g a σ q33 e36) rfl rfl cw_X4_roomLeft q_462 q_464 q_10 ⟨by decide, by decide⟩ 0 4 rfl rfl rfl (Fr.all rfl) rfl (Nat.le_of_ble_eq_true rfl) dX4_mostThrough_36 ?_
      refine v_mmin X (pc := 39)  q_458 q_459 q_20 q_460 (by decide) (Nat.le_of_ble_eq_true rfl) dX4_mostThrough_39 ?_
      replace h := oi h
      subst h
      exact v_iret X (pc := 42) F dX4_mostThrough_42
    · replace h := hn (nbt c) h
      refine v_iconst X (pc := 17) (v := 0) dX4_mostThrough_17 (by decide) ?_
      replace h := oi h
      subst h
      exact v_iret X (pc := 18) F dX4_mostThrough_18
theorem cw_X4_mostThrough : CwB yX4_mostThrough cX4_mostThrough 3 (Option.some FieldType.int) 2 := ⟨q_452, q_15, by decide, by decide, by decide +kernel⟩
def f_X4_moveTo (σ : Blk) (x1 : Int32) (x2 : Int32) : Option (Blk) :=
  (if x1 = 0 then some σ else (f_X5_add 6 (σ 2) x1 x2).bind fun q10 => lt (upR σ 2 q10) fun m10 => some m10)
set_option maxHeartbeats 4000000 in
set_option maxRecDepth 100000 in
theorem c_X4_moveTo (l : Launch) (g : Gl) (a : Nat → Nat) (σ : Blk) (x1 : Int32) (x2 : Int32) {res : Blk} (h : f_X4_moveTo σ x1 x2 = some res) : Ok l g yX4_moveTo cX4_moveTo 3 (Option.none : Option FieldType) 2 44 [.ref (a 0), .int x1, .int x2] (wSt g a σ) none (wSt g a res) := by
  refine Ok.of RX4 (by decide) rfl (Nat.le_of_ble_eq_true rfl) (fun x hl hg X F => ?_)
  subst hg; subst hl
  rw [f_X4_moveTo] at h
  show V x (wSt x.g a σ) [(0, .ref (a 0)), (1, .int x1), (2, .int x2)] [] 0
  refine v_iload_n X (pc := 0) dX4_moveTo_0 rfl 1 rfl ?_
  refine v_ifeq X (pc := 1) (tgt := 13) dX4_moveTo_1 (by decide) (fun c => ?_) (fun c => ?_)
  · replace h := hp c h
    replace h := oi h
    subst h
    exact v_vret X (pc := 13) F dX4_moveTo_13
  · replace h := hn c h
    refine v_aload_n X (pc := 4) dX4_moveTo_4 rfl 0 rfl ?_
    refine v_get X (pc := 5) (v := .ref (a 2)) uw4 0 rfl rfl 1 (by decide) q_60 rfl rfl dX4_moveTo_5 ?_
    refine v_iload_n X (pc := 8) dX4_moveTo_8 rfl 1 rfl ?_
    refine v_iload_n X (pc := 9) dX4_moveTo_9 rfl 2 rfl ?_
    obtain ⟨q10, e10, h⟩ := ob h
    obtain ⟨m10, em10, h⟩ := lts h
    refine v_callSN X (pc := 10) (st1 := []) (w' := (wSt x.g a m10)) [.ref (a 2), .int x1, .int x2] [] (c_X5_add x.l x.g (a 2) 6 (σ 2) x1 x2 e10) rfl rfl cw_X5_add k_28 q_402 ⟨by decide, by decide⟩ (by rw [← em10]; exact (Fr.of [2] rfl rfl rfl rfl rfl)) rfl (Nat.le_of_ble_eq_true rfl) dX4_moveTo_10 ?_
    replace h := oi h
    subst h
    exact v_vret X (pc := 13) F dX4_moveTo_13
theorem cw_X4_moveTo : CwB yX4_moveTo cX4_moveTo 3 (Option.none : Option FieldType) 2 := ⟨q_474, q_15, by decide, by decide, by decide +kernel⟩
def f_X4_letThrough (σ : Blk) (x1 : Int32) (x2 : Bool) (x3 : Int32) : Option (Blk) :=
  (f_X4_hallBehind σ x1 x2).bind fun q4 => (f_X4_moveTo σ q4 (-x3)).bind fun q9 => (f_X4_hallAhead q9 x1 x2).bind fun q16 => (f_X4_moveTo q9 q16 x3).bind fun q20 => (if x2 = true then (if x2 = true then lt (f_X5_counterIndex x1 0) fun q52 => (f_X1_seePeople q20 q52 x3).bind fun q56 => lt (f_X5_counterIndex x1 3) fun q66 => (f_X1_seePeople q56 q66 x3).bind fun q70 => some q70 else lt (f_X5_counterIndex x1 0) fun q52 => (f_X1_seePeople q20 q52 x3).bind fun q56 => lt (f_X5_counterIndex x1 1) fun q66 => (f_X1_seePeople q56 q66 x3).bind fun q70 => some q70) else (if x2 = true then lt (f_X5_counterIndex x1 2) fun q52 => (f_X1_seePeople q20 q52 x3).bind fun q56 => lt (f_X5_counterIndex x1 3) fun q66 => (f_X1_seePeople q56 q66 x3).bind fun q70 => some q70 else lt (f_X5_counterIndex x1 2) fun q52 => (f_X1_seePeople q20 q52 x3).bind fun q56 => lt (f_X5_counterIndex x1 1) fun q66 => (f_X1_seePeople q56 q66 x3).bind fun q70 => some q70))
set_option maxHeartbeats 4000000 in
set_option maxRecDepth 100000 in
theorem c_X4_letThrough (l : Launch) (g : Gl) (a : Nat → Nat) (σ : Blk) (x1 : Int32) (x2 : Bool) (x3 : Int32) {res : Blk} (h : f_X4_letThrough σ x1 x2 x3 = some res) : Ok l g yX4_letThrough cX4_letThrough 6 (Option.none : Option FieldType) 3 69 [.ref (a 0), .int x1, .int (b2i x2), .int x3] (wSt g a σ) none (wSt g a res) := by
  refine Ok.of RX4 (by decide) rfl (Nat.le_of_ble_eq_true rfl) (fun x hl hg X F => ?_)
  subst hg; subst hl
  rw [f_X4_letThrough] at h
  show V x (wSt x.g a σ) [(0, .ref (a 0)), (1, .int x1), (2, .int (b2i x2)), (3, .int x3)] [] 0
  refine v_aload_n X (pc := 0) dX4_letThrough_0 rfl 0 rfl ?_
  refine v_aload_n X (pc := 1) dX4_letThrough_1 rfl 0 rfl ?_
  refine v_iload_n X (pc := 2) dX4_letThrough_2 rfl 1 rfl ?_
  refine v_iload_n X (pc := 3) dX4_letThrough_3 rfl 2 rfl ?_
  obtain ⟨q4, e4, h⟩ := ob h
  refine v_callV X (pc := 4) (st1 := [.int q4, .ref (a 0)]) (w' := (wSt x.g a σ)) [.int x1, .int (b2i x2)] [.ref (a 0)] (c_X4_hallBehind x.l x.g a σ x1 x2 e4) rfl rfl cw_X4_hallBehind q_443 q_436 q_437 ⟨by decide, by decide⟩ 0 4 rfl rfl rfl (Fr.all rfl) rfl (Nat.le_of_ble_eq_true rfl) dX4_letThrough_4 ?_
  refine v_iload_n X (pc := 7) dX4_letThrough_7 rfl 3 rfl ?_
  refine v_ineg X (pc := 8) dX4_letThrough_8 ?_
  obtain ⟨q9, e9, h⟩ := ob h
  refine v_callV X (pc := 9) (st1 := []) (w' := (wSt x.g a q9)) [.int q4, .int (-x3)] [] (c_X4_moveTo x.l x.g a σ q4 (-x3) e9) rfl rfl cw_X4_moveTo q_471 q_473 q_11 ⟨by decide, by decide⟩ 0 4 rfl rfl rfl (Fr.all rfl) rfl (Nat.le_of_ble_eq_true rfl) dX4_letThrough_9 ?_
  refine v_aload_n X (pc := 12) dX4_letThrough_12 rfl 0 rfl ?_
  refine v_aload_n X (pc := 13) dX4_letThrough_13 rfl 0 rfl ?_
  refine v_iload_n X (pc := 14) dX4_letThrough_14 rfl 1 rfl ?_
  refine v_iload_n X (pc := 15) dX4_letThrough_15 rfl 2 rfl ?_
  obtain ⟨q16, e16, h⟩ := ob h
  refine v_callV X (pc := 16) (st1 := [.int q16, .ref (a 0)]) (w' := (wSt x.g a q9)) [.int x1, .int (b2i x2)] [.ref (a 0)] (c_X4_hallAhead x.l x.g a q9 x1 x2 e16) rfl rfl cw_X4_hallAhead q_461 q_440 q_441 ⟨by decide, by decide⟩ 0 4 rfl rfl rfl (Fr.all rfl) rfl (Nat.le_of_ble_eq_true rfl) dX4_letThrough_16 ?_
  refine v_iload_n X (pc := 19) dX4_letThrough_19 rfl 3 rfl ?_
  obtain ⟨q20, e20, h⟩ := ob h
  refine v_callV X (pc := 20) (st1 := []) (w' := (wSt x.g a q20)) [.int q16, .int x3] [] (c_X4_moveTo x.l x.g a q9 q16 x3 e20) rfl rfl cw_X4_moveTo q_471 q_473 q_11 ⟨by decide, by decide⟩ 0 4 rfl rfl rfl (Fr.all rfl) rfl (Nat.le_of_ble_eq_true rfl) dX4_letThrough_20 ?_
  refine v_iload_n X (pc := 23) dX4_letThrough_23 rfl 2 rfl ?_
  refine v_ifeqB X (pc := 24) (tgt := 31) dX4_letThrough_24 (by decide) (fun c => ?_) (fun c => ?_)
  · replace h := hn (nbt c) h
    refine v_iconst X (pc := 31) (v := 2) dX4_letThrough_31 (by decide) ?_
    refine v_istore X (pc := 32) (L2 := [(4, .int 2), (0, .ref (a 0)), (1, .int x1), (2, .int (b2i x2)), (3, .int x3)]) dX4_letThrough_32 (by decide) rfl ?_
    refine v_iload_n X (pc := 34) dX4_letThrough_34 rfl 3 rfl ?_
    refine v_ifeqB X (pc := 35) (tgt := 42) dX4_letThrough_35 (by decide) (fun c => ?_) (fun c => ?_)
    · replace h := hn (nbt c) h
      refine v_iconst X (pc := 42) (v := 1) dX4_letThrough_42 (by decide) ?_
      refine v_istore X (pc := 43) (L2 := [(5, .int 1), (4, .int 2), (0, .ref (a 0)), (1, .int x1), (2, .int (b2i x2)), (3, .int x3)]) dX4_letThrough_43 (by decide) rfl ?_
      refine v_aload_n X (pc := 45) dX4_letThrough_45 rfl 2 rfl ?_
      refine v_get X (pc := 46) (v := .ref (a 11)) uw4 0 rfl rfl 6 (by decide) q_70 rfl rfl dX4_letThrough_46 ?_
      refine v_iload_n X (pc := 49) dX4_letThrough_49 rfl 3 rfl ?_
      refine v_iload X (pc := 50) dX4_letThrough_50 1 rfl ?_
      obtain ⟨q52, e52, h⟩ := lts h
      refine v_callSN X (pc := 52) (st1 := [.int q52, .ref (a 11)]) (w' := (wSt x.g a q20)) [.int x1, .int 2] [.ref (a 11)] (c_X5_counterIndex x.l x.g  x1 2 e52) rfl rfl cw_X5_counterIndex k_31 q_251 ⟨by decide, by decide⟩ Fr.nil rfl (Nat.le_of_ble_eq_true rfl) dX4_letThrough_52 ?_
      refine v_iload_n X (pc := 55) dX4_letThrough_55 rfl 5 rfl ?_
      obtain ⟨q56, e56, h⟩ := ob h
      refine v_callV X (pc := 56) (st1 := []) (w' := (wSt x.g a q56)) [.int q52, .int x3] [] (c_X1_seePeople x.l x.g a q20 q52 x3 e56) rfl rfl cw_X1_seePeople q_476 q_477 q_478 ⟨by decide, by decide⟩ 11 1 rfl rfl rfl (Fr.all rfl) rfl (Nat.le_of_ble_eq_true rfl) dX4_letThrough_56 ?_
      refine v_aload_n X (pc := 59) dX4_letThrough_59 rfl 2 rfl ?_
      refine v_get X (pc := 60) (v := .ref (a 11)) uw4 0 rfl rfl 6 (by decide) q_70 rfl rfl dX4_letThrough_60 ?_
      refine v_iload_n X (pc := 63) dX4_letThrough_63 rfl 3 rfl ?_
      refine v_iload X (pc := 64) dX4_letThrough_64 0 rfl ?_
      obtain ⟨q66, e66, h⟩ := lts h
      refine v_callSN X (pc := 66) (st1 := [.int q66, .ref (a 11)]) (w' := (wSt x.g a q56)) [.int x1, .int 1] [.ref (a 11)] (c_X5_counterIndex x.l x.g  x1 1 e66) rfl rfl cw_X5_counterIndex k_31 q_251 ⟨by decide, by decide⟩ Fr.nil rfl (Nat.le_of_ble_eq_true rfl) dX4_letThrough_66 ?_
      refine v_iload_n X (pc := 69) dX4_letThrough_69 rfl 5 rfl ?_
      obtain ⟨q70, e70, h⟩ := ob h
      refine v_callV X (pc := 70) (st1 := []) (w' := (wSt x.g a q70)) [.int q66, .int x3] [] (c_X1_seePeople x.l x.g a q56 q66 x3 e70) rfl rfl cw_X1_seePeople q_476 q_477 q_478 ⟨by decide, by decide⟩ 11 1 rfl rfl rfl (Fr.all rfl) rfl (Nat.le_of_ble_eq_true rfl) dX4_letThrough_70 ?_
      replace h := oi h
      subst h
      exact v_vret X (pc := 73) F dX4_letThrough_73
    · replace h := hp c h
      refine v_iconst X (pc := 38) (v := 3) dX4_letThrough_38 (by decide) ?_
      refine v_goto X (pc := 39) (tgt := 43) dX4_letThrough_39 (by decide) ?_
      refine v_istore X (pc := 43) (L2 := [(5, .int 3), (4, .int 2), (0, .ref (a 0)), (1, .int x1), (2, .int (b2i x2)), (3, .int x3)]) dX4_letThrough_43 (by decide) rfl ?_
      refine v_aload_n X (pc := 45) dX4_letThrough_45 rfl 2 rfl ?_
      refine v_get X (pc := 46) (v := .ref (a 11)) uw4 0 rfl rfl 6 (by decide) q_70 rfl rfl dX4_letThrough_46 ?_
      refine v_iload_n X (pc := 49) dX4_letThrough_49 rfl 3 rfl ?_
      refine v_iload X (pc := 50) dX4_letThrough_50 1 rfl ?_
      obtain ⟨q52, e52, h⟩ := lts h
      refine v_callSN X (pc := 52) (st1 := [.int q52, .ref (a 11)]) (w' := (wSt x.g a q20)) [.int x1, .int 2] [.ref (a 11)] (c_X5_counterIndex x.l x.g  x1 2 e52) rfl rfl cw_X5_counterIndex k_31 q_251 ⟨by decide, by decide⟩ Fr.nil rfl (Nat.le_of_ble_eq_true rfl) dX4_letThrough_52 ?_
      refine v_iload_n X (pc := 55) dX4_letThrough_55 rfl 5 rfl ?_
      obtain ⟨q56, e56, h⟩ := ob h
      refine v_callV X (pc := 56) (st1 := []) (w' := (wSt x.g a q56)) [.int q52, .int x3] [] (c_X1_seePeople x.l x.g a q20 q52 x3 e56) rfl rfl cw_X1_seePeople q_476 q_477 q_478 ⟨by decide, by decide⟩ 11 1 rfl rfl rfl (Fr.all rfl) rfl (Nat.le_of_ble_eq_true rfl) dX4_letThrough_56 ?_
      refine v_aload_n X (pc := 59) dX4_letThrough_59 rfl 2 rfl ?_
      refine v_get X (pc := 60) (v := .ref (a 11)) uw4 0 rfl rfl 6 (by decide) q_70 rfl rfl dX4_letThrough_60 ?_
      refine v_iload_n X (pc := 63) dX4_letThrough_63 rfl 3 rfl ?_
      refine v_iload X (pc := 64) dX4_letThrough_64 0 rfl ?_
      obtain ⟨q66, e66, h⟩ := lts h
      refine v_callSN X (pc := 66) (st1 := [.int q66, .ref (a 11)]) (w' := (wSt x.g a q56)) [.int x1, .int 3] [.ref (a 11)] (c_X5_counterIndex x.l x.g  x1 3 e66) rfl rfl cw_X5_counterIndex k_31 q_251 ⟨by decide, by decide⟩ Fr.nil rfl (Nat.le_of_ble_eq_true rfl) dX4_letThrough_66 ?_
      refine v_iload_n X (pc := 69) dX4_letThrough_69 rfl 5 rfl ?_
      obtain ⟨q70, e70, h⟩ := ob h
      refine v_callV X (pc := 70) (st1 := []) (w' := (wSt x.g a q70)) [.int q66, .int x3] [] (c_X1_seePeople x.l x.g a q56 q66 x3 e70) rfl rfl cw_X1_seePeople q_476 q_477 q_478 ⟨by decide, by decide⟩ 11 1 rfl rfl rfl (Fr.all rfl) rfl (Nat.le_of_ble_eq_true rfl) dX4_letThrough_70 ?_
      replace h := oi h
      subst h
      exact v_vret X (pc := 73) F dX4_letThrough_73
  · replace h := hp c h
    refine v_iconst X (pc := 27) (v := 0) dX4_letThrough_27 (by decide) ?_
    refine v_goto X (pc := 28) (tgt := 32) dX4_letThrough_28 (by decide) ?_
    refine v_istore X (pc := 32) (L2 := [(4, .int 0), (0, .ref (a 0)), (1, .int x1), (2, .int (b2i x2)), (3, .int x3)]) dX4_letThrough_32 (by decide) rfl ?_
    refine v_iload_n X (pc := 34) dX4_letThrough_34 rfl 3 rfl ?_
    refine v_ifeqB X (pc := 35) (tgt := 42) dX4_letThrough_35 (by decide) (fun c => ?_) (fun c => ?_)
    · replace h := hn (nbt c) h
      refine v_iconst X (pc := 42) (v := 1) dX4_letThrough_42 (by decide) ?_
      refine v_istore X (pc := 43) (L2 := [(5, .int 1), (4, .int 0), (0, .ref (a 0)), (1, .int x1), (2, .int (b2i x2)), (3, .int x3)]) dX4_letThrough_43 (by decide) rfl ?_
      refine v_aload_n X (pc := 45) dX4_letThrough_45 rfl 2 rfl ?_
      refine v_get X (pc := 46) (v := .ref (a 11)) uw4 0 rfl rfl 6 (by decide) q_70 rfl rfl dX4_letThrough_46 ?_
      refine v_iload_n X (pc := 49) dX4_letThrough_49 rfl 3 rfl ?_
      refine v_iload X (pc := 50) dX4_letThrough_50 1 rfl ?_
      obtain ⟨q52, e52, h⟩ := lts h
      refine v_callSN X (pc := 52) (st1 := [.int q52, .ref (a 11)]) (w' := (wSt x.g a q20)) [.int x1, .int 0] [.ref (a 11)] (c_X5_counterIndex x.l x.g  x1 0 e52) rfl rfl cw_X5_counterIndex k_31 q_251 ⟨by decide, by decide⟩ Fr.nil rfl (Nat.le_of_ble_eq_true rfl) dX4_letThrough_52 ?_
      refine v_iload_n X (pc := 55) dX4_letThrough_55 rfl 5 rfl ?_
      obtain ⟨q56, e56, h⟩ := ob h
      refine v_callV X (pc := 56) (st1 := []) (w' := (wSt x.g a q56)) [.int q52, .int x3] [] (c_X1_seePeople x.l x.g a q20 q52 x3 e56) rfl rfl cw_X1_seePeople q_476 q_477 q_478 ⟨by decide, by decide⟩ 11 1 rfl rfl rfl (Fr.all rfl) rfl (Nat.le_of_ble_eq_true rfl) dX4_letThrough_56 ?_
      refine v_aload_n X (pc := 59) dX4_letThrough_59 rfl 2 rfl ?_
      refine v_get X (pc := 60) (v := .ref (a 11)) uw4 0 rfl rfl 6 (by decide) q_70 rfl rfl dX4_letThrough_60 ?_
      refine v_iload_n X (pc := 63) dX4_letThrough_63 rfl 3 rfl ?_
      refine v_iload X (pc := 64) dX4_letThrough_64 0 rfl ?_
      obtain ⟨q66, e66, h⟩ := lts h
      refine v_callSN X (pc := 66) (st1 := [.int q66, .ref (a 11)]) (w' := (wSt x.g a q56)) [.int x1, .int 1] [.ref (a 11)] (c_X5_counterIndex x.l x.g  x1 1 e66) rfl rfl cw_X5_counterIndex k_31 q_251 ⟨by decide, by decide⟩ Fr.nil rfl (Nat.le_of_ble_eq_true rfl) dX4_letThrough_66 ?_
      refine v_iload_n X (pc := 69) dX4_letThrough_69 rfl 5 rfl ?_
      obtain ⟨q70, e70, h⟩ := ob h
      refine v_callV X (pc := 70) (st1 := []) (w' := (wSt x.g a q70)) [.int q66, .int x3] [] (c_X1_seePeople x.l x.g a q56 q66 x3 e70) rfl rfl cw_X1_seePeople q_476 q_477 q_478 ⟨by decide, by decide⟩ 11 1 rfl rfl rfl (Fr.all rfl) rfl (Nat.le_of_ble_eq_true rfl) dX4_letThrough_70 ?_
      replace h := oi h
      subst h
      exact v_vret X (pc := 73) F dX4_letThrough_73
    · replace h := hp c h
      refine v_iconst X (pc := 38) (v := 3) dX4_letThrough_38 (by decide) ?_
      refine v_goto X (pc := 39) (tgt := 43) dX4_letThrough_39 (by decide) ?_
      refine v_istore X (pc := 43) (L2 := [(5, .int 3), (4, .int 0), (0, .ref (a 0)), (1, .int x1), (2, .int (b2i x2)), (3, .int x3)]) dX4_letThrough_43 (by decide) rfl ?_
      refine v_aload_n X (pc := 45) dX4_letThrough_45 rfl 2 rfl ?_
      refine v_get X (pc := 46) (v := .ref (a 11)) uw4 0 rfl rfl 6 (by decide) q_70 rfl rfl dX4_letThrough_46 ?_
      refine v_iload_n X (pc := 49) dX4_letThrough_49 rfl 3 rfl ?_
      refine v_iload X (pc := 50) dX4_letThrough_50 1 rfl ?_
      obtain ⟨q52, e52, h⟩ := lts h
      refine v_callSN X (pc := 52) (st1 := [.int q52, .ref (a 11)]) (w' := (wSt x.g a q20)) [.int x1, .int 0] [.ref (a 11)] (c_X5_counterIndex x.l x.g  x1 0 e52) rfl rfl cw_X5_counterIndex k_31 q_251 ⟨by decide, by decide⟩ Fr.nil rfl (Nat.le_of_ble_eq_true rfl) dX4_letThrough_52 ?_
      refine v_iload_n X (pc := 55) dX4_letThrough_55 rfl 5 rfl ?_
      obtain ⟨q56, e56, h⟩ := ob h
      refine v_callV X (pc := 56) (st1 := []) (w' := (wSt x.g a q56)) [.int q52, .int x3] [] (c_X1_seePeople x.l x.g a q20 q52 x3 e56) rfl rfl cw_X1_seePeople q_476 q_477 q_478 ⟨by decide, by decide⟩ 11 1 rfl rfl rfl (Fr.all rfl) rfl (Nat.le_of_ble_eq_true rfl) dX4_letThrough_56 ?_
      refine v_aload_n X (pc := 59) dX4_letThrough_59 rfl 2 rfl ?_
      refine v_get X (pc := 60) (v := .ref (a 11)) uw4 0 rfl rfl 6 (by decide) q_70 rfl rfl dX4_letThrough_60 ?_
      refine v_iload_n X (pc := 63) dX4_letThrough_63 rfl 3 rfl ?_
      refine v_iload X (pc := 64) dX4_letThrough_64 0 rfl ?_
      obtain ⟨q66, e66, h⟩ := lts h
      refine v_callSN X (pc := 66) (st1 := [.int q66, .ref (a 11)]) (w' := (wSt x.g a q56)) [.int x1, .int 3] [.ref (a 11)] (c_X5_counterIndex x.l x.g  x1 3 e66) rfl rfl cw_X5_counterIndex k_31 q_251 ⟨by decide, by decide⟩ Fr.nil rfl (Nat.le_of_ble_eq_true rfl) dX4_letThrough_66 ?_
      refine v_iload_n X (pc := 69) dX4_letThrough_69 rfl 5 rfl ?_
      obtain ⟨q70, e70, h⟩ := ob h
      refine v_callV X (pc := 70) (st1 := []) (w' := (wSt x.g a q70)) [.int q66, .int x3] [] (c_X1_seePeople x.l x.g a q56 q66 x3 e70) rfl rfl cw_X1_seePeople q_476 q_477 q_478 ⟨by decide, by decide⟩ 11 1 rfl rfl rfl (Fr.all rfl) rfl (Nat.le_of_ble_eq_true rfl) dX4_letThrough_70 ?_
      replace h := oi h
      subst h
      exact v_vret X (pc := 73) F dX4_letThrough_73
theorem cw_X4_letThrough : CwB yX4_letThrough cX4_letThrough 6 (Option.none : Option FieldType) 3 := ⟨q_470, q_15, by decide, by decide, by decide +kernel⟩
def f_X4_beginRepair (σ : Blk) (x1 : Int32) : Option (Blk) :=
  (f_X5_put 12 (σ 6) x1 (σ 0 2)).bind fun q9 => lt (upR σ 6 q9) fun m9 => some m9
set_option maxHeartbeats 4000000 in
set_option maxRecDepth 100000 in
theorem c_X4_beginRepair (l : Launch) (g : Gl) (a : Nat → Nat) (σ : Blk) (x1 : Int32) {res : Blk} (h : f_X4_beginRepair σ x1 = some res) : Ok l g yX4_beginRepair cX4_beginRepair 2 (Option.none : Option FieldType) 1 22 [.ref (a 0), .int x1] (wSt g a σ) none (wSt g a res) := by
  refine Ok.of RX4 (by decide) rfl (Nat.le_of_ble_eq_true rfl) (fun x hl hg X F => ?_)
  subst hg; subst hl
  rw [f_X4_beginRepair] at h
  show V x (wSt x.g a σ) [(0, .ref (a 0)), (1, .int x1)] [] 0
  refine v_aload_n X (pc := 0) dX4_beginRepair_0 rfl 0 rfl ?_
  refine v_get X (pc := 1) (v := .ref (a 6)) uw4 0 rfl rfl 5 (by decide) q_68 rfl rfl dX4_beginRepair_1 ?_
  refine v_iload_n X (pc := 4) dX4_beginRepair_4 rfl 1 rfl ?_
  refine v_aload_n X (pc := 5) dX4_beginRepair_5 rfl 0 rfl ?_
  refine v_get X (pc := 6) (v := .int (σ 0 2)) uw4 0 rfl rfl 9 (by decide) q_78 rfl rfl dX4_beginRepair_6 ?_
  obtain ⟨q9, e9, h⟩ := ob h
  obtain ⟨m9, em9, h⟩ := lts h
  refine v_callSN X (pc := 9) (st1 := []) (w' := (wSt x.g a m9)) [.ref (a 6), .int x1, .int (σ 0 2)] [] (c_X5_put x.l x.g (a 6) 12 (σ 6) x1 (σ 0 2) e9) rfl rfl cw_X5_put k_26 q_329 ⟨by decide, by decide⟩ (by rw [← em9]; exact (Fr.of [6] rfl rfl rfl rfl rfl)) rfl (Nat.le_of_ble_eq_true rfl) dX4_beginRepair_9 ?_
  replace h := oi h
  subst h
  exact v_vret X (pc := 12) F dX4_beginRepair_12
theorem cw_X4_beginRepair : CwB yX4_beginRepair cX4_beginRepair 2 (Option.none : Option FieldType) 1 := ⟨q_385, q_15, by decide, by decide, by decide +kernel⟩
def f_X4_letHourPass_L4  : Nat → Blk → Int32 → Int32 → Option (Int32 × Blk)
  | 0, _, _, _ => none
  | n + 1, σ, x1, x2 =>
    (if (σ 0 0) ≤ x2 then lt (up σ 0 3 ((σ 0 3) + 1)) fun m61 => some (x1, m61) else (f_X4_isUnderRepair σ x2).bind fun q14 => (if q14 = true then (f_X5_add 12 (σ 6) x2 (-1)).bind fun q26 => lt (upR σ 6 q26) fun m26 => (f_X4_isUnderRepair m26 x2).bind fun q31 => (if q31 = true then f_X4_letHourPass_L4  n m26 x1 (x2 + 1) else (f_X1_endSlips m26 x2).bind fun q42 => f_X4_letHourPass_L4  n q42 (x1 + 1) (x2 + 1)) else f_X4_letHourPass_L4  n σ x1 (x2 + 1)))
set_option maxHeartbeats 4000000 in
set_option maxRecDepth 100000 in
theorem v_X4_letHourPass_L4 {x : Ctx} (X : Cx x RX4 cX4_letHourPass 3 3 66) (a : Nat → Nat)  : ∀ (n : Nat) (σ : Blk) (x1 : Int32) (x2 : Int32) {res : Int32 × Blk}, f_X4_letHourPass_L4  n σ x1 x2 = some res → Fn x (Option.some FieldType.int) (some (.int res.1)) (wSt x.g a res.2) → V x (wSt x.g a σ) [(0, .ref (a 0)), (1, .int x1), (2, .int x2)] [] 4 := by
  intro n
  induction n with
  | zero =>
    intro σ x1 x2 res h F
    rw [f_X4_letHourPass_L4] at h
    cases h
  | succ n ih =>
    intro σ x1 x2 res h F
    rw [f_X4_letHourPass_L4] at h
    refine v_iload_n X (pc := 4) dX4_letHourPass_4 rfl 2 rfl ?_
    refine v_aload_n X (pc := 5) dX4_letHourPass_5 rfl 0 rfl ?_
    refine v_get X (pc := 6) (v := .int (σ 0 0)) uw4 0 rfl rfl 7 (by decide) q_72 rfl rfl dX4_letHourPass_6 ?_
    refine v_icmpge X (pc := 9) (tgt := 54) dX4_letHourPass_9 (by decide) (fun c => ?_) (fun c => ?_)
    · replace h := hp c h
      refine v_aload_n X (pc := 54) dX4_letHourPass_54 rfl 0 rfl ?_
      refine v_dup X (pc := 55) dX4_letHourPass_55 rfl ?_
      refine v_get X (pc := 56) (v := .int (σ 0 3)) uw4 0 rfl rfl 10 (by decide) q_80 rfl rfl dX4_letHourPass_56 ?_
      refine v_iconst X (pc := 59) (v := 1) dX4_letHourPass_59 (by decide) ?_
      refine v_iadd X (pc := 60) dX4_letHourPass_60 ?_
      obtain ⟨m61, em61, h⟩ := lts h
      refine v_put X (pc := 61) (w' := (wSt x.g a m61)) uw4 0 rfl rfl 10 (by decide) q_80 rfl tyX4 tyX4_ok nmX4 rfl rfl rfl (Nat.le_of_ble_eq_true rfl) (by rw [← em61]; rfl) dX4_letHourPass_61 ?_
      refine v_iload_n X (pc := 64) dX4_letHourPass_64 rfl 1 rfl ?_
      replace h := oi h
      subst h
      exact v_iret X (pc := 65) F dX4_letHourPass_65
    · replace h := hn c h
      refine v_aload_n X (pc := 12) dX4_letHourPass_12 rfl 0 rfl ?_
      refine v_iload_n X (pc := 13) dX4_letHourPass_13 rfl 2 rfl ?_
      obtain ⟨q14, e14, h⟩ := ob h
      refine v_callV X (pc := 14) (st1 := [.int (b2i q14)]) (w' := (wSt x.g a σ)) [.int x2] [] (c_X4_isUnderRepair x.l x.g a σ x2 e14) rfl rfl cw_X4_isUnderRepair q_266 q_267 q_268 ⟨by decide, by decide⟩ 0 4 rfl rfl rfl (Fr.all rfl) rfl (Nat.le_of_ble_eq_true rfl) dX4_letHourPass_14 ?_
      refine v_ifeqB X (pc := 17) (tgt := 48) dX4_letHourPass_17 (by decide) (fun c => ?_) (fun c => ?_)
      · replace h := hn (nbt c) h
        refine v_iinc X (pc := 48) (v := (x2 + 1)) (L2 := [(2, .int (x2 + 1)), (0, .ref (a 0)), (1, .int x1)]) dX4_letHourPass_48 2 rfl (by first | rfl | decide) (by decide) rfl ?_
        refine v_goto X (pc := 51) (tgt := 4) dX4_letHourPass_51 (by decide) ?_
        refine v_sub (L2 := [(0, .ref (a 0)), (1, .int x1), (2, .int (x2 + 1))]) [1, 2, 0] rfl ?_
        exact ih σ x1 (x2 + 1) h F
      · replace h := hp c h
        refine v_aload_n X (pc := 20) dX4_letHourPass_20 rfl 0 rfl ?_
        refine v_get X (pc := 21) (v := .ref (a 6)) uw4 0 rfl rfl 5 (by decide) q_68 rfl rfl dX4_letHourPass_21 ?_
        refine v_iload_n X (pc := 24) dX4_letHourPass_24 rfl 2 rfl ?_
        refine v_iconst X (pc := 25) (v := (-1)) dX4_letHourPass_25 (by decide) ?_
        obtain ⟨q26, e26, h⟩ := ob h
        obtain ⟨m26, em26, h⟩ := lts h
        refine v_callSN X (pc := 26) (st1 := []) (w' := (wSt x.g a m26)) [.ref (a 6), .int x2, .int (-1)] [] (c_X5_add x.l x.g (a 6) 12 (σ 6) x2 (-1) e26) rfl rfl cw_X5_add k_28 q_402 ⟨by decide, by decide⟩ (by rw [← em26]; exact (Fr.of [6] rfl rfl rfl rfl rfl)) rfl (Nat.le_of_ble_eq_true rfl) dX4_letHourPass_26 ?_
        refine v_aload_n X (pc := 29) dX4_letHourPass_29 rfl 0 rfl ?_
        refine v_iload_n X (pc := 30) dX4_letHourPass_30 rfl 2 rfl ?_
        obtain ⟨q31, e31, h⟩ := ob h
        refine v_callV X (pc := 31) (st1 := [.int (b2i q31)]) (w' := (wSt x.g a m26)) [.int x2] [] (c_X4_isUnderRepair x.l x.g a m26 x2 e31) rfl rfl cw_X4_isUnderRepair q_266 q_267 q_268 ⟨by decide, by decide⟩ 0 4 rfl rfl rfl (Fr.all rfl) rfl (Nat.le_of_ble_eq_true rfl) dX4_letHourPass_31 ?_
        refine v_ifneB X (pc := 34) (tgt := 48) dX4_letHourPass_34 (by decide) (fun c => ?_) (fun c => ?_)
        · replace h := hp c h
          refine v_iinc X (pc := 48) (v := (x2 + 1)) (L2 := [(2, .int (x2 + 1)), (0, .ref (a 0)), (1, .int x1)]) dX4_letHourPass_48 2 rfl (by first | rfl | decide) (by decide) rfl ?_
          refine v_goto X (pc := 51) (tgt := 4) dX4_letHourPass_51 (by decide) ?_
          refine v_sub (L2 := [(0, .ref (a 0)), (1, .int x1), (2, .int (x2 + 1))]) [1, 2, 0] rfl ?_
          exact ih m26 x1 (x2 + 1) h F
        · replace h := hn (nbt c) h
          refine v_aload_n X (pc := 37) dX4_letHourPass_37 rfl 0 rfl ?_
          refine v_get X (pc := 38) (v := .ref (a 11)) uw4 0 rfl rfl 6 (by decide) q_70 rfl rfl dX4_letHourPass_38 ?_
          refine v_iload_n X (pc := 41) dX4_letHourPass_41 rfl 2 rfl ?_
          obtain ⟨q42, e42, h⟩ := ob h
          refine v_callV X (pc := 42) (st1 := []) (w' := (wSt x.g a q42)) [.int x2] [] (c_X1_endSlips x.l x.g a m26 x2 e42) rfl rfl cw_X1_endSlips q_404 q_405 q_406 ⟨by decide, by decide⟩ 11 1 rfl rfl rfl (Fr.all rfl) rfl (Nat.le_of_ble_eq_true rfl) dX4_letHourPass_42 ?_
          refine v_iinc X (pc := 45) (v := (x1 + 1)) (L2 := [(1, .int (x1 + 1)), (0, .ref (a 0)), (2, .int x2)]) dX4_letHourPass_45 1 rfl (by first | rfl | decide) (by decide) rfl ?_
          refine v_iinc X (pc := 48) (v := (x2 + 1)) (L2 := [(2, .int (x2 + 1)), (1, .int (x1 + 1)), (0, .ref (a 0))]) dX4_letHourPass_48 2 rfl (by first | rfl | decide) (by decide) rfl ?_
          refine v_goto X (pc := 51) (tgt := 4) dX4_letHourPass_51 (by decide) ?_
          refine v_sub (L2 := [(0, .ref (a 0)), (1, .int (x1 + 1)), (2, .int (x2 + 1))]) [2, 1, 0] rfl ?_
          exact ih q42 (x1 + 1) (x2 + 1) h F
def f_X4_letHourPass (σ : Blk) : Option (Int32 × Blk) :=
  f_X4_letHourPass_L4  FU σ 0 0
set_option maxHeartbeats 4000000 in
set_option maxRecDepth 100000 in
theorem c_X4_letHourPass (l : Launch) (g : Gl) (a : Nat → Nat) (σ : Blk) {res : Int32 × Blk} (h : f_X4_letHourPass σ = some res) : Ok l g yX4_letHourPass cX4_letHourPass 3 (Option.some FieldType.int) 3 66 [.ref (a 0)] (wSt g a σ) (some (.int res.1)) (wSt g a res.2) := by
  refine Ok.of RX4 (by decide) rfl (Nat.le_of_ble_eq_true rfl) (fun x hl hg X F => ?_)
  subst hg; subst hl
  rw [f_X4_letHourPass] at h
  show V x (wSt x.g a σ) [(0, .ref (a 0))] [] 0
  refine v_iconst X (pc := 0) (v := 0) dX4_letHourPass_0 (by decide) ?_
  refine v_istore_n X (pc := 1) (L2 := [(1, .int 0), (0, .ref (a 0))]) dX4_letHourPass_1 rfl (by decide) rfl ?_
  refine v_iconst X (pc := 2) (v := 0) dX4_letHourPass_2 (by decide) ?_
  refine v_istore_n X (pc := 3) (L2 := [(2, .int 0), (1, .int 0), (0, .ref (a 0))]) dX4_letHourPass_3 rfl (by decide) rfl ?_
  refine v_sub (L2 := [(0, .ref (a 0)), (1, .int 0), (2, .int 0)]) [2, 1, 0] rfl ?_
  exact v_X4_letHourPass_L4 X a  FU σ 0 0 h F
theorem cw_X4_letHourPass : CwB yX4_letHourPass cX4_letHourPass 3 (Option.some FieldType.int) 0 := ⟨q_400, q_15, by decide, by decide, by decide +kernel⟩
def f_X4_letHoursPass_L4 (x1 : Int32) : Nat → Blk → Int32 → Int32 → Option (Int32 × Blk)
  | 0, _, _, _ => none
  | n + 1, σ, x2, x3 =>
    (if x1 ≤ x3 then some (x2, σ) else (f_X4_letHourPass σ).bind fun q11 => f_X4_letHoursPass_L4 x1 n q11.2 (x2 + q11.1) (x3 + 1))
set_option maxHeartbeats 4000000 in
set_option maxRecDepth 100000 in
theorem v_X4_letHoursPass_L4 {x : Ctx} (X : Cx x RX4 cX4_letHoursPass 4 4 88) (a : Nat → Nat) (x1 : Int32) : ∀ (n : Nat) (σ : Blk) (x2 : Int32) (x3 : Int32) {res : Int32 × Blk}, f_X4_letHoursPass_L4 x1 n σ x2 x3 = some res → Fn x (Option.some FieldType.int) (some (.int res.1)) (wSt x.g a res.2) → V x (wSt x.g a σ) [(0, .ref (a 0)), (1, .int x1), (2, .int x2), (3, .int x3)] [] 4 := by
  intro n
  induction n with
  | zero =>
    intro σ x2 x3 res h F
    rw [f_X4_letHoursPass_L4] at h
    cases h
  | succ n ih =>
    intro σ x2 x3 res h F
    rw [f_X4_letHoursPass_L4] at h
    refine v_iload_n X (pc := 4) dX4_letHoursPass_4 rfl 3 rfl ?_
    refine v_iload_n X (pc := 5) dX4_letHoursPass_5 rfl 1 rfl ?_
    refine v_icmpge X (pc := 6) (tgt := 22) dX4_letHoursPass_6 (by decide) (fun c => ?_) (fun c => ?_)
    · replace h := hp c h
      refine v_iload_n X (pc := 22) dX4_letHoursPass_22 rfl 2 rfl ?_
      replace h := oi h
      subst h
      exact v_iret X (pc := 23) F dX4_letHoursPass_23
    · replace h := hn c h
      refine v_iload_n X (pc := 9) dX4_letHoursPass_9 rfl 2 rfl ?_
      refine v_aload_n X (pc := 10) dX4_letHoursPass_10 rfl 0 rfl ?_
      obtain ⟨q11, e11, h⟩ := ob h
      refine v_callV X (pc := 11) (st1 := [.int q11.1, .int x2]) (w' := (wSt x.g a q11.2)) [] [.int x2] (c_X4_letHourPass x.l x.g a σ e11) rfl rfl cw_X4_letHourPass q_397 q_398 q_399 ⟨by decide, by decide⟩ 0 4 rfl rfl rfl (Fr.all rfl) rfl (Nat.le_of_ble_eq_true rfl) dX4_letHoursPass_11 ?_
      refine v_iadd X (pc := 14) dX4_letHoursPass_14 ?_
      refine v_istore_n X (pc := 15) (L2 := [(2, .int (x2 + q11.1)), (0, .ref (a 0)), (1, .int x1), (3, .int x3)]) dX4_letHoursPass_15 rfl (by decide) rfl ?_
      refine v_iinc X (pc := 16) (v := (x3 + 1)) (L2 := [(3, .int (x3 + 1)), (2, .int (x2 + q11.1)), (0, .ref (a 0)), (1, .int x1)]) dX4_letHoursPass_16 3 rfl (by first | rfl | decide) (by decide) rfl ?_
      refine v_goto X (pc := 19) (tgt := 4) dX4_letHoursPass_19 (by decide) ?_
      refine v_sub (L2 := [(0, .ref (a 0)), (1, .int x1), (2, .int (x2 + q11.1)), (3, .int (x3 + 1))]) [2, 3, 1, 0] rfl ?_
      exact ih q11.2 (x2 + q11.1) (x3 + 1) h F
def f_X4_letHoursPass (σ : Blk) (x1 : Int32) : Option (Int32 × Blk) :=
  f_X4_letHoursPass_L4 x1 FU σ 0 0
set_option maxHeartbeats 4000000 in
set_option maxRecDepth 100000 in
theorem c_X4_letHoursPass (l : Launch) (g : Gl) (a : Nat → Nat) (σ : Blk) (x1 : Int32) {res : Int32 × Blk} (h : f_X4_letHoursPass σ x1 = some res) : Ok l g yX4_letHoursPass cX4_letHoursPass 4 (Option.some FieldType.int) 4 88 [.ref (a 0), .int x1] (wSt g a σ) (some (.int res.1)) (wSt g a res.2) := by
  refine Ok.of RX4 (by decide) rfl (Nat.le_of_ble_eq_true rfl) (fun x hl hg X F => ?_)
  subst hg; subst hl
  rw [f_X4_letHoursPass] at h
  show V x (wSt x.g a σ) [(0, .ref (a 0)), (1, .int x1)] [] 0
  refine v_iconst X (pc := 0) (v := 0) dX4_letHoursPass_0 (by decide) ?_
  refine v_istore_n X (pc := 1) (L2 := [(2, .int 0), (0, .ref (a 0)), (1, .int x1)]) dX4_letHoursPass_1 rfl (by decide) rfl ?_
  refine v_iconst X (pc := 2) (v := 0) dX4_letHoursPass_2 (by decide) ?_
  refine v_istore_n X (pc := 3) (L2 := [(3, .int 0), (2, .int 0), (0, .ref (a 0)), (1, .int x1)]) dX4_letHoursPass_3 rfl (by decide) rfl ?_
  refine v_sub (L2 := [(0, .ref (a 0)), (1, .int x1), (2, .int 0), (3, .int 0)]) [2, 3, 1, 0] rfl ?_
  exact v_X4_letHoursPass_L4 X a x1 FU σ 0 0 h F
theorem cw_X4_letHoursPass : CwB yX4_letHoursPass cX4_letHoursPass 4 (Option.some FieldType.int) 1 := ⟨q_396, q_15, by decide, by decide, by decide +kernel⟩
def f_X4_toldByFirstSide (σ : Blk) (x1 : Int32) : Option (Int32) :=
  (f_X1_countOf σ x1 1).bind fun q6 => (f_X1_countOf σ x1 0).bind fun q15 => some (q6 - q15)
set_option maxHeartbeats 4000000 in
set_option maxRecDepth 100000 in
theorem c_X4_toldByFirstSide (l : Launch) (g : Gl) (a : Nat → Nat) (σ : Blk) (x1 : Int32) {res : Int32} (h : f_X4_toldByFirstSide σ x1 = some res) : Ok l g yX4_toldByFirstSide cX4_toldByFirstSide 2 (Option.some FieldType.int) 2 43 [.ref (a 0), .int x1] (wSt g a σ) (some (.int res)) (wSt g a σ) := by
  refine Ok.of RX4 (by decide) rfl (Nat.le_of_ble_eq_true rfl) (fun x hl hg X F => ?_)
  subst hg; subst hl
  rw [f_X4_toldByFirstSide] at h
  show V x (wSt x.g a σ) [(0, .ref (a 0)), (1, .int x1)] [] 0
  refine v_aload_n X (pc := 0) dX4_toldByFirstSide_0 rfl 0 rfl ?_
  refine v_get X (pc := 1) (v := .ref (a 11)) uw4 0 rfl rfl 6 (by decide) q_70 rfl rfl dX4_toldByFirstSide_1 ?_
  refine v_iload_n X (pc := 4) dX4_toldByFirstSide_4 rfl 1 rfl ?_
  refine v_iconst X (pc := 5) (v := 1) dX4_toldByFirstSide_5 (by decide) ?_
  obtain ⟨q6, e6, h⟩ := ob h
  refine v_callV X (pc := 6) (st1 := [.int q6]) (w' := (wSt x.g a σ)) [.int x1, .int 1] [] (c_X1_countOf x.l x.g a σ x1 1 e6) rfl rfl cw_X1_countOf q_282 q_247 q_248 ⟨by decide, by decide⟩ 11 1 rfl rfl rfl (Fr.all rfl) rfl (Nat.le_of_ble_eq_true rfl) dX4_toldByFirstSide_6 ?_
  refine v_aload_n X (pc := 9) dX4_toldByFirstSide_9 rfl 0 rfl ?_
  refine v_get X (pc := 10) (v := .ref (a 11)) uw4 0 rfl rfl 6 (by decide) q_70 rfl rfl dX4_toldByFirstSide_10 ?_
  refine v_iload_n X (pc := 13) dX4_toldByFirstSide_13 rfl 1 rfl ?_
  refine v_iconst X (pc := 14) (v := 0) dX4_toldByFirstSide_14 (by decide) ?_
  obtain ⟨q15, e15, h⟩ := ob h
  refine v_callV X (pc := 15) (st1 := [.int q15, .int q6]) (w' := (wSt x.g a σ)) [.int x1, .int 0] [.int q6] (c_X1_countOf x.l x.g a σ x1 0 e15) rfl rfl cw_X1_countOf q_282 q_247 q_248 ⟨by decide, by decide⟩ 11 1 rfl rfl rfl (Fr.all rfl) rfl (Nat.le_of_ble_eq_true rfl) dX4_toldByFirstSide_15 ?_
  refine v_isub X (pc := 18) dX4_toldByFirstSide_18 ?_
  replace h := oi h
  subst h
  exact v_iret X (pc := 19) F dX4_toldByFirstSide_19
theorem cw_X4_toldByFirstSide : CwB yX4_toldByFirstSide cX4_toldByFirstSide 2 (Option.some FieldType.int) 1 := ⟨q_281, q_15, by decide, by decide, by decide +kernel⟩
def f_X4_toldBySecondSide (σ : Blk) (x1 : Int32) : Option (Int32) :=
  (f_X1_countOf σ x1 3).bind fun q6 => (f_X1_countOf σ x1 2).bind fun q15 => some (q6 - q15)
set_option maxHeartbeats 4000000 in
set_option maxRecDepth 100000 in
theorem c_X4_toldBySecondSide (l : Launch) (g : Gl) (a : Nat → Nat) (σ : Blk) (x1 : Int32) {res : Int32} (h : f_X4_toldBySecondSide σ x1 = some res) : Ok l g yX4_toldBySecondSide cX4_toldBySecondSide 2 (Option.some FieldType.int) 2 43 [.ref (a 0), .int x1] (wSt g a σ) (some (.int res)) (wSt g a σ) := by
  refine Ok.of RX4 (by decide) rfl (Nat.le_of_ble_eq_true rfl) (fun x hl hg X F => ?_)
  subst hg; subst hl
  rw [f_X4_toldBySecondSide] at h
  show V x (wSt x.g a σ) [(0, .ref (a 0)), (1, .int x1)] [] 0
  refine v_aload_n X (pc := 0) dX4_toldBySecondSide_0 rfl 0 rfl ?_
  refine v_get X (pc := 1) (v := .ref (a 11)) uw4 0 rfl rfl 6 (by decide) q_70 rfl rfl dX4_toldBySecondSide_1 ?_
  refine v_iload_n X (pc := 4) dX4_toldBySecondSide_4 rfl 1 rfl ?_
  refine v_iconst X (pc := 5) (v := 3) dX4_toldBySecondSide_5 (by decide) ?_
  obtain ⟨q6, e6, h⟩ := ob h
  refine v_callV X (pc := 6) (st1 := [.int q6]) (w' := (wSt x.g a σ)) [.int x1, .int 3] [] (c_X1_countOf x.l x.g a σ x1 3 e6) rfl rfl cw_X1_countOf q_282 q_247 q_248 ⟨by decide, by decide⟩ 11 1 rfl rfl rfl (Fr.all rfl) rfl (Nat.le_of_ble_eq_true rfl) dX4_toldBySecondSide_6 ?_
  refine v_aload_n X (pc := 9) dX4_toldBySecondSide_9 rfl 0 rfl ?_
  refine v_get X (pc := 10) (v := .ref (a 11)) uw4 0 rfl rfl 6 (by decide) q_70 rfl rfl dX4_toldBySecondSide_10 ?_
  refine v_iload_n X (pc := 13) dX4_toldBySecondSide_13 rfl 1 rfl ?_
  refine v_iconst X (pc := 14) (v := 2) dX4_toldBySecondSide_14 (by decide) ?_
  obtain ⟨q15, e15, h⟩ := ob h
  refine v_callV X (pc := 15) (st1 := [.int q15, .int q6]) (w' := (wSt x.g a σ)) [.int x1, .int 2] [.int q6] (c_X1_countOf x.l x.g a σ x1 2 e15) rfl rfl cw_X1_countOf q_282 q_247 q_248 ⟨by decide, by decide⟩ 11 1 rfl rfl rfl (Fr.all rfl) rfl (Nat.le_of_ble_eq_true rfl) dX4_toldBySecondSide_15 ?_
  refine v_isub X (pc := 18) dX4_toldBySecondSide_18 ?_
  replace h := oi h
  subst h
  exact v_iret X (pc := 19) F dX4_toldBySecondSide_19
theorem cw_X4_toldBySecondSide : CwB yX4_toldBySecondSide cX4_toldBySecondSide 2 (Option.some FieldType.int) 1 := ⟨q_286, q_15, by decide, by decide, by decide +kernel⟩
def f_X4_toldByOwnSides_L4 (σ : Blk) (x1 : Int32) : Nat → Int32 → Int32 → Option (Int32)
  | 0, _, _ => none
  | n + 1, x2, x3 =>
    (if (σ 0 0) ≤ x3 then some x2 else (f_X5_at 12 (σ 3) x3).bind fun q17 => (if q17 = x1 then (f_X4_toldByFirstSide σ x3).bind fun q27 => f_X4_toldByOwnSides_L4 σ x1 n (x2 + q27) (x3 + 1) else (f_X5_at 12 (σ 4) x3).bind fun q40 => (if q40 = x1 then (f_X4_toldBySecondSide σ x3).bind fun q50 => f_X4_toldByOwnSides_L4 σ x1 n (x2 + q50) (x3 + 1) else f_X4_toldByOwnSides_L4 σ x1 n x2 (x3 + 1))))
set_option maxHeartbeats 4000000 in
set_option maxRecDepth 100000 in
theorem v_X4_toldByOwnSides_L4 {x : Ctx} (X : Cx x RX4 cX4_toldByOwnSides 4 3 64) (a : Nat → Nat) (σ : Blk) (x1 : Int32) : ∀ (n : Nat) (x2 : Int32) (x3 : Int32) {res : Int32}, f_X4_toldByOwnSides_L4 σ x1 n x2 x3 = some res → Fn x (Option.some FieldType.int) (some (.int res)) (wSt x.g a σ) → V x (wSt x.g a σ) [(0, .ref (a 0)), (1, .int x1), (2, .int x2), (3, .int x3)] [] 4 := by
  intro n
  induction n with
  | zero =>
    intro x2 x3 res h F
    rw [f_X4_toldByOwnSides_L4] at h
    cases h
  | succ n ih =>
    intro x2 x3 res h F
    rw [f_X4_toldByOwnSides_L4] at h
    refine v_iload_n X (pc := 4) dX4_toldByOwnSides_4 rfl 3 rfl ?_
    refine v_aload_n X (pc := 5) dX4_toldByOwnSides_5 rfl 0 rfl ?_
    refine v_get X (pc := 6) (v := .int (σ 0 0)) uw4 0 rfl rfl 7 (by decide) q_72 rfl rfl dX4_toldByOwnSides_6 ?_
    refine v_icmpge X (pc := 9) (tgt := 61) dX4_toldByOwnSides_9 (by decide) (fun c => ?_) (fun c => ?_)
    · replace h := hp c h
      refine v_iload_n X (pc := 61) dX4_toldByOwnSides_61 rfl 2 rfl ?_
      replace h := oi h
      subst h
      exact v_iret X (pc := 62) F dX4_toldByOwnSides_62
    · replace h := hn c h
      refine v_aload_n X (pc := 12) dX4_toldByOwnSides_12 rfl 0 rfl ?_
      refine v_get X (pc := 13) (v := .ref (a 3)) uw4 0 rfl rfl 2 (by decide) q_62 rfl rfl dX4_toldByOwnSides_13 ?_
      refine v_iload_n X (pc := 16) dX4_toldByOwnSides_16 rfl 3 rfl ?_
      obtain ⟨q17, e17, h⟩ := ob h
      refine v_callSN X (pc := 17) (st1 := [.int q17]) (w' := (wSt x.g a σ)) [.ref (a 3), .int x3] [] (c_X5_at x.l x.g (a 3) 12 (σ 3) x3 e17) rfl rfl cw_X5_at k_23 q_221 ⟨by decide, by decide⟩ (Fr.of [3] rfl rfl rfl rfl rfl) rfl (Nat.le_of_ble_eq_true rfl) dX4_toldByOwnSides_17 ?_
      refine v_iload_n X (pc := 20) dX4_toldByOwnSides_20 rfl 1 rfl ?_
      refine v_icmpne X (pc := 21) (tgt := 35) dX4_toldByOwnSides_21 (by decide) (fun c => ?_) (fun c => ?_)
      · replace h := hn c h
        refine v_aload_n X (pc := 35) dX4_toldByOwnSides_35 rfl 0 rfl ?_
        refine v_get X (pc := 36) (v := .ref (a 4)) uw4 0 rfl rfl 3 (by decide) q_64 rfl rfl dX4_toldByOwnSides_36 ?_
        refine v_iload_n X (pc := 39) dX4_toldByOwnSides_39 rfl 3 rfl ?_
        obtain ⟨q40, e40, h⟩ := ob h
        refine v_callSN X (pc := 40) (st1 := [.int q40]) (w' := (wSt x.g a σ)) [.ref (a 4), .int x3] [] (c_X5_at x.l x.g (a 4) 12 (σ 4) x3 e40) rfl rfl cw_X5_at k_23 q_221 ⟨by decide, by decide⟩ (Fr.of [4] rfl rfl rfl rfl rfl) rfl (Nat.le_of_ble_eq_true rfl) dX4_toldByOwnSides_40 ?_
        refine v_iload_n X (pc := 43) dX4_toldByOwnSides_43 rfl 1 rfl ?_
        refine v_icmpne X (pc := 44) (tgt := 55) dX4_toldByOwnSides_44 (by decide) (fun c => ?_) (fun c => ?_)
        · replace h := hn c h
          refine v_iinc X (pc := 55) (v := (x3 + 1)) (L2 := [(3, .int (x3 + 1)), (0, .ref (a 0)), (1, .int x1), (2, .int x2)]) dX4_toldByOwnSides_55 3 rfl (by first | rfl | decide) (by decide) rfl ?_
          refine v_goto X (pc := 58) (tgt := 4) dX4_toldByOwnSides_58 (by decide) ?_
          refine v_sub (L2 := [(0, .ref (a 0)), (1, .int x1), (2, .int x2), (3, .int (x3 + 1))]) [1, 2, 3, 0] rfl ?_
          exact ih x2 (x3 + 1) h F
        · replace h := hp c h
          refine v_iload_n X (pc := 47) dX4_toldByOwnSides_47 rfl 2 rfl ?_
          refine v_aload_n X (pc := 48) dX4_toldByOwnSides_48 rfl 0 rfl ?_
          refine v_iload_n X (pc := 49) dX4_toldByOwnSides_49 rfl 3 rfl ?_
          obtain ⟨q50, e50, h⟩ := ob h
          refine v_callV X (pc := 50) (st1 := [.int q50, .int x2]) (w' := (wSt x.g a σ)) [.int x3] [.int x2] (c_X4_toldBySecondSide x.l x.g a σ x3 e50) rfl rfl cw_X4_toldBySecondSide q_283 q_285 q_2 ⟨by decide, by decide⟩ 0 4 rfl rfl rfl (Fr.all rfl) rfl (Nat.le_of_ble_eq_true rfl) dX4_toldByOwnSides_50 ?_
          refine v_iadd X (pc := 53) dX4_toldByOwnSides_53 ?_
          refine v_istore_n X (pc := 54) (L2 := [(2, .int (x2 + q50)), (0, .ref (a 0)), (1, .int x1), (3, .int x3)]) dX4_toldByOwnSides_54 rfl (by decide) rfl ?_
          refine v_iinc X (pc := 55) (v := (x3 + 1)) (L2 := [(3, .int (x3 + 1)), (2, .int (x2 + q50)), (0, .ref (a 0)), (1, .int x1)]) dX4_toldByOwnSides_55 3 rfl (by first | rfl | decide) (by decide) rfl ?_
          refine v_goto X (pc := 58) (tgt := 4) dX4_toldByOwnSides_58 (by decide) ?_
          refine v_sub (L2 := [(0, .ref (a 0)), (1, .int x1), (2, .int (x2 + q50)), (3, .int (x3 + 1))]) [2, 3, 1, 0] rfl ?_
          exact ih (x2 + q50) (x3 + 1) h F
      · replace h := hp c h
        refine v_iload_n X (pc := 24) dX4_toldByOwnSides_24 rfl 2 rfl ?_
        refine v_aload_n X (pc := 25) dX4_toldByOwnSides_25 rfl 0 rfl ?_
        refine v_iload_n X (pc := 26) dX4_toldByOwnSides_26 rfl 3 rfl ?_
        obtain ⟨q27, e27, h⟩ := ob h
        refine v_callV X (pc := 27) (st1 := [.int q27, .int x2]) (w' := (wSt x.g a σ)) [.int x3] [.int x2] (c_X4_toldByFirstSide x.l x.g a σ x3 e27) rfl rfl cw_X4_toldByFirstSide q_278 q_280 q_1 ⟨by decide, by decide⟩ 0 4 rfl rfl rfl (Fr.all rfl) rfl (Nat.le_of_ble_eq_true rfl) dX4_toldByOwnSides_27 ?_
        refine v_iadd X (pc := 30) dX4_toldByOwnSides_30 ?_
        refine v_istore_n X (pc := 31) (L2 := [(2, .int (x2 + q27)), (0, .ref (a 0)), (1, .int x1), (3, .int x3)]) dX4_toldByOwnSides_31 rfl (by decide) rfl ?_
        refine v_goto X (pc := 32) (tgt := 55) dX4_toldByOwnSides_32 (by decide) ?_
        refine v_iinc X (pc := 55) (v := (x3 + 1)) (L2 := [(3, .int (x3 + 1)), (2, .int (x2 + q27)), (0, .ref (a 0)), (1, .int x1)]) dX4_toldByOwnSides_55 3 rfl (by first | rfl | decide) (by decide) rfl ?_
        refine v_goto X (pc := 58) (tgt := 4) dX4_toldByOwnSides_58 (by decide) ?_
        refine v_sub (L2 := [(0, .ref (a 0)), (1, .int x1), (2, .int (x2 + q27)), (3, .int (x3 + 1))]) [2, 3, 1, 0] rfl ?_
        exact ih (x2 + q27) (x3 + 1) h F
def f_X4_toldByOwnSides (σ : Blk) (x1 : Int32) : Option (Int32) :=
  f_X4_toldByOwnSides_L4 σ x1 FU 0 0
set_option maxHeartbeats 4000000 in
set_option maxRecDepth 100000 in
theorem c_X4_toldByOwnSides (l : Launch) (g : Gl) (a : Nat → Nat) (σ : Blk) (x1 : Int32) {res : Int32} (h : f_X4_toldByOwnSides σ x1 = some res) : Ok l g yX4_toldByOwnSides cX4_toldByOwnSides 4 (Option.some FieldType.int) 3 64 [.ref (a 0), .int x1] (wSt g a σ) (some (.int res)) (wSt g a σ) := by
  refine Ok.of RX4 (by decide) rfl (Nat.le_of_ble_eq_true rfl) (fun x hl hg X F => ?_)
  subst hg; subst hl
  rw [f_X4_toldByOwnSides] at h
  show V x (wSt x.g a σ) [(0, .ref (a 0)), (1, .int x1)] [] 0
  refine v_iconst X (pc := 0) (v := 0) dX4_toldByOwnSides_0 (by decide) ?_
  refine v_istore_n X (pc := 1) (L2 := [(2, .int 0), (0, .ref (a 0)), (1, .int x1)]) dX4_toldByOwnSides_1 rfl (by decide) rfl ?_
  refine v_iconst X (pc := 2) (v := 0) dX4_toldByOwnSides_2 (by decide) ?_
  refine v_istore_n X (pc := 3) (L2 := [(3, .int 0), (2, .int 0), (0, .ref (a 0)), (1, .int x1)]) dX4_toldByOwnSides_3 rfl (by decide) rfl ?_
  refine v_sub (L2 := [(0, .ref (a 0)), (1, .int x1), (2, .int 0), (3, .int 0)]) [2, 3, 1, 0] rfl ?_
  exact v_X4_toldByOwnSides_L4 X a σ x1 FU 0 0 h F
theorem cw_X4_toldByOwnSides : CwB yX4_toldByOwnSides cX4_toldByOwnSides 4 (Option.some FieldType.int) 1 := ⟨q_277, q_15, by decide, by decide, by decide +kernel⟩
def f_X4_toldByFarSides_L4 (σ : Blk) (x1 : Int32) : Nat → Int32 → Int32 → Option (Int32)
  | 0, _, _ => none
  | n + 1, x2, x3 =>
    (if (σ 0 0) ≤ x3 then some x2 else (f_X5_at 12 (σ 3) x3).bind fun q17 => (if q17 = x1 then (f_X4_toldBySecondSide σ x3).bind fun q27 => f_X4_toldByFarSides_L4 σ x1 n (x2 - q27) (x3 + 1) else (f_X5_at 12 (σ 4) x3).bind fun q40 => (if q40 = x1 then (f_X4_toldByFirstSide σ x3).bind fun q50 => f_X4_toldByFarSides_L4 σ x1 n (x2 - q50) (x3 + 1) else f_X4_toldByFarSides_L4 σ x1 n x2 (x3 + 1))))
set_option maxHeartbeats 4000000 in
set_option maxRecDepth 100000 in
theorem v_X4_toldByFarSides_L4 {x : Ctx} (X : Cx x RX4 cX4_toldByFarSides 4 3 64) (a : Nat → Nat) (σ : Blk) (x1 : Int32) : ∀ (n : Nat) (x2 : Int32) (x3 : Int32) {res : Int32}, f_X4_toldByFarSides_L4 σ x1 n x2 x3 = some res → Fn x (Option.some FieldType.int) (some (.int res)) (wSt x.g a σ) → V x (wSt x.g a σ) [(0, .ref (a 0)), (1, .int x1), (2, .int x2), (3, .int x3)] [] 4 := by
  intro n
  induction n with
  | zero =>
    intro x2 x3 res h F
    rw [f_X4_toldByFarSides_L4] at h
    cases h
  | succ n ih =>
    intro x2 x3 res h F
    rw [f_X4_toldByFarSides_L4] at h
    refine v_iload_n X (pc := 4) dX4_toldByFarSides_4 rfl 3 rfl ?_
    refine v_aload_n X (pc := 5) dX4_toldByFarSides_5 rfl 0 rfl ?_
    refine v_get X (pc := 6) (v := .int (σ 0 0)) uw4 0 rfl rfl 7 (by decide) q_72 rfl rfl dX4_toldByFarSides_6 ?_
    refine v_icmpge X (pc := 9) (tgt := 61) dX4_toldByFarSides_9 (by decide) (fun c => ?_) (fun c => ?_)
    · replace h := hp c h
      refine v_iload_n X (pc := 61) dX4_toldByFarSides_61 rfl 2 rfl ?_
      replace h := oi h
      subst h
      exact v_iret X (pc := 62) F dX4_toldByFarSides_62
    · replace h := hn c h
      refine v_aload_n X (pc := 12) dX4_toldByFarSides_12 rfl 0 rfl ?_
      refine v_get X (pc := 13) (v := .ref (a 3)) uw4 0 rfl rfl 2 (by decide) q_62 rfl rfl dX4_toldByFarSides_13 ?_
      refine v_iload_n X (pc := 16) dX4_toldByFarSides_16 rfl 3 rfl ?_
      obtain ⟨q17, e17, h⟩ := ob h
      refine v_callSN X (pc := 17) (st1 := [.int q17]) (w' := (wSt x.g a σ)) [.ref (a 3), .int x3] [] (c_X5_at x.l x.g (a 3) 12 (σ 3) x3 e17) rfl rfl cw_X5_at k_23 q_221 ⟨by decide, by decide⟩ (Fr.of [3] rfl rfl rfl rfl rfl) rfl (Nat.le_of_ble_eq_true rfl) dX4_toldByFarSides_17 ?_
      refine v_iload_n X (pc := 20) dX4_toldByFarSides_20 rfl 1 rfl ?_
      refine v_icmpne X (pc := 21) (tgt := 35) dX4_toldByFarSides_21 (by decide) (fun c => ?_) (fun c => ?_)
      · replace h := hn c h
        refine v_aload_n X (pc := 35) dX4_toldByFarSides_35 rfl 0 rfl ?_
        refine v_get X (pc := 36) (v := .ref (a 4)) uw4 0 rfl rfl 3 (by decide) q_64 rfl rfl dX4_toldByFarSides_36 ?_
        refine v_iload_n X (pc := 39) dX4_toldByFarSides_39 rfl 3 rfl ?_
        obtain ⟨q40, e40, h⟩ := ob h
        refine v_callSN X (pc := 40) (st1 := [.int q40]) (w' := (wSt x.g a σ)) [.ref (a 4), .int x3] [] (c_X5_at x.l x.g (a 4) 12 (σ 4) x3 e40) rfl rfl cw_X5_at k_23 q_221 ⟨by decide, by decide⟩ (Fr.of [4] rfl rfl rfl rfl rfl) rfl (Nat.le_of_ble_eq_true rfl) dX4_toldByFarSides_40 ?_
        refine v_iload_n X (pc := 43) dX4_toldByFarSides_43 rfl 1 rfl ?_
        refine v_icmpne X (pc := 44) (tgt := 55) dX4_toldByFarSides_44 (by decide) (fun c => ?_) (fun c => ?_)
        · replace h := hn c h
          refine v_iinc X (pc := 55) (v := (x3 + 1)) (L2 := [(3, .int (x3 + 1)), (0, .ref (a 0)), (1, .int x1), (2, .int x2)]) dX4_toldByFarSides_55 3 rfl (by first | rfl | decide) (by decide) rfl ?_
          refine v_goto X (pc := 58) (tgt := 4) dX4_toldByFarSides_58 (by decide) ?_
          refine v_sub (L2 := [(0, .ref (a 0)), (1, .int x1), (2, .int x2), (3, .int (x3 + 1))]) [1, 2, 3, 0] rfl ?_
          exact ih x2 (x3 + 1) h F
        · replace h := hp c h
          refine v_iload_n X (pc := 47) dX4_toldByFarSides_47 rfl 2 rfl ?_
          refine v_aload_n X (pc := 48) dX4_toldByFarSides_48 rfl 0 rfl ?_
          refine v_iload_n X (pc := 49) dX4_toldByFarSides_49 rfl 3 rfl ?_
          obtain ⟨q50, e50, h⟩ := ob h
          refine v_callV X (pc := 50) (st1 := [.int q50, .int x2]) (w' := (wSt x.g a σ)) [.int x3] [.int x2] (c_X4_toldByFirstSide x.l x.g a σ x3 e50) rfl rfl cw_X4_toldByFirstSide q_278 q_280 q_1 ⟨by decide, by decide⟩ 0 4 rfl rfl rfl (Fr.all rfl) rfl (Nat.le_of_ble_eq_true rfl) dX4_toldByFarSides_50 ?_
          refine v_isub X (pc := 53) dX4_toldByFarSides_53 ?_
          refine v_istore_n X (pc := 54) (L2 := [(2, .int (x2 - q50)), (0, .ref (a 0)), (1, .int x1), (3, .int x3)]) dX4_toldByFarSides_54 rfl (by decide) rfl ?_
          refine v_iinc X (pc := 55) (v := (x3 + 1)) (L2 := [(3, .int (x3 + 1)), (2, .int (x2 - q50)), (0, .ref (a 0)), (1, .int x1)]) dX4_toldByFarSides_55 3 rfl (by first | rfl | decide) (by decide) rfl ?_
          refine v_goto X (pc := 58) (tgt := 4) dX4_toldByFarSides_58 (by decide) ?_
          refine v_sub (L2 := [(0, .ref (a 0)), (1, .int x1), (2, .int (x2 - q50)), (3, .int (x3 + 1))]) [2, 3, 1, 0] rfl ?_
          exact ih (x2 - q50) (x3 + 1) h F
      · replace h := hp c h
        refine v_iload_n X (pc := 24) dX4_toldByFarSides_24 rfl 2 rfl ?_
        refine v_aload_n X (pc := 25) dX4_toldByFarSides_25 rfl 0 rfl ?_
        refine v_iload_n X (pc := 26) dX4_toldByFarSides_26 rfl 3 rfl ?_
        obtain ⟨q27, e27, h⟩ := ob h
        refine v_callV X (pc := 27) (st1 := [.int q27, .int x2]) (w' := (wSt x.g a σ)) [.int x3] [.int x2] (c_X4_toldBySecondSide x.l x.g a σ x3 e27) rfl rfl cw_X4_toldBySecondSide q_283 q_285 q_2 ⟨by decide, by decide⟩ 0 4 rfl rfl rfl (Fr.all rfl) rfl (Nat.le_of_ble_eq_true rfl) dX4_toldByFarSides_27 ?_
        refine v_isub X (pc := 30) dX4_toldByFarSides_30 ?_
        refine v_istore_n X (pc := 31) (L2 := [(2, .int (x2 - q27)), (0, .ref (a 0)), (1, .int x1), (3, .int x3)]) dX4_toldByFarSides_31 rfl (by decide) rfl ?_
        refine v_goto X (pc := 32) (tgt := 55) dX4_toldByFarSides_32 (by decide) ?_
        refine v_iinc X (pc := 55) (v := (x3 + 1)) (L2 := [(3, .int (x3 + 1)), (2, .int (x2 - q27)), (0, .ref (a 0)), (1, .int x1)]) dX4_toldByFarSides_55 3 rfl (by first | rfl | decide) (by decide) rfl ?_
        refine v_goto X (pc := 58) (tgt := 4) dX4_toldByFarSides_58 (by decide) ?_
        refine v_sub (L2 := [(0, .ref (a 0)), (1, .int x1), (2, .int (x2 - q27)), (3, .int (x3 + 1))]) [2, 3, 1, 0] rfl ?_
        exact ih (x2 - q27) (x3 + 1) h F
def f_X4_toldByFarSides (σ : Blk) (x1 : Int32) : Option (Int32) :=
  f_X4_toldByFarSides_L4 σ x1 FU 0 0
set_option maxHeartbeats 4000000 in
set_option maxRecDepth 100000 in
theorem c_X4_toldByFarSides (l : Launch) (g : Gl) (a : Nat → Nat) (σ : Blk) (x1 : Int32) {res : Int32} (h : f_X4_toldByFarSides σ x1 = some res) : Ok l g yX4_toldByFarSides cX4_toldByFarSides 4 (Option.some FieldType.int) 3 64 [.ref (a 0), .int x1] (wSt g a σ) (some (.int res)) (wSt g a σ) := by
  refine Ok.of RX4 (by decide) rfl (Nat.le_of_ble_eq_true rfl) (fun x hl hg X F => ?_)
  subst hg; subst hl
  rw [f_X4_toldByFarSides] at h
  show V x (wSt x.g a σ) [(0, .ref (a 0)), (1, .int x1)] [] 0
  refine v_iconst X (pc := 0) (v := 0) dX4_toldByFarSides_0 (by decide) ?_
  refine v_istore_n X (pc := 1) (L2 := [(2, .int 0), (0, .ref (a 0)), (1, .int x1)]) dX4_toldByFarSides_1 rfl (by decide) rfl ?_
  refine v_iconst X (pc := 2) (v := 0) dX4_toldByFarSides_2 (by decide) ?_
  refine v_istore_n X (pc := 3) (L2 := [(3, .int 0), (2, .int 0), (0, .ref (a 0)), (1, .int x1)]) dX4_toldByFarSides_3 rfl (by decide) rfl ?_
  refine v_sub (L2 := [(0, .ref (a 0)), (1, .int x1), (2, .int 0), (3, .int 0)]) [2, 3, 1, 0] rfl ?_
  exact v_X4_toldByFarSides_L4 X a σ x1 FU 0 0 h F
theorem cw_X4_toldByFarSides : CwB yX4_toldByFarSides cX4_toldByFarSides 4 (Option.some FieldType.int) 1 := ⟨q_294, q_15, by decide, by decide, by decide +kernel⟩
def f_X4_toldByAllOwnSides_L4 (σ : Blk) : Nat → Int32 → Int32 → Option (Int32)
  | 0, _, _ => none
  | n + 1, x1, x2 =>
    (if 6 ≤ x2 then some x1 else (f_X4_toldByOwnSides σ x2).bind fun q13 => f_X4_toldByAllOwnSides_L4 σ n (x1 + q13) (x2 + 1))
set_option maxHeartbeats 4000000 in
set_option maxRecDepth 100000 in
theorem v_X4_toldByAllOwnSides_L4 {x : Ctx} (X : Cx x RX4 cX4_toldByAllOwnSides 3 4 87) (a : Nat → Nat) (σ : Blk) : ∀ (n : Nat) (x1 : Int32) (x2 : Int32) {res : Int32}, f_X4_toldByAllOwnSides_L4 σ n x1 x2 = some res → Fn x (Option.some FieldType.int) (some (.int res)) (wSt x.g a σ) → V x (wSt x.g a σ) [(0, .ref (a 0)), (1, .int x1), (2, .int x2)] [] 4 := by
  intro n
  induction n with
  | zero =>
    intro x1 x2 res h F
    rw [f_X4_toldByAllOwnSides_L4] at h
    cases h
  | succ n ih =>
    intro x1 x2 res h F
    rw [f_X4_toldByAllOwnSides_L4] at h
    refine v_iload_n X (pc := 4) dX4_toldByAllOwnSides_4 rfl 2 rfl ?_
    refine v_bipush X (pc := 5) (v := 6) dX4_toldByAllOwnSides_5 (by decide) ?_
    refine v_icmpge X (pc := 7) (tgt := 24) dX4_toldByAllOwnSides_7 (by decide) (fun c => ?_) (fun c => ?_)
    · replace h := hp c h
      refine v_iload_n X (pc := 24) dX4_toldByAllOwnSides_24 rfl 1 rfl ?_
      replace h := oi h
      subst h
      exact v_iret X (pc := 25) F dX4_toldByAllOwnSides_25
    · replace h := hn c h
      refine v_iload_n X (pc := 10) dX4_toldByAllOwnSides_10 rfl 1 rfl ?_
      refine v_aload_n X (pc := 11) dX4_toldByAllOwnSides_11 rfl 0 rfl ?_
      refine v_iload_n X (pc := 12) dX4_toldByAllOwnSides_12 rfl 2 rfl ?_
      obtain ⟨q13, e13, h⟩ := ob h
      refine v_callV X (pc := 13) (st1 := [.int q13, .int x1]) (w' := (wSt x.g a σ)) [.int x2] [.int x1] (c_X4_toldByOwnSides x.l x.g a σ x2 e13) rfl rfl cw_X4_toldByOwnSides q_274 q_275 q_276 ⟨by decide, by decide⟩ 0 4 rfl rfl rfl (Fr.all rfl) rfl (Nat.le_of_ble_eq_true rfl) dX4_toldByAllOwnSides_13 ?_
      refine v_iadd X (pc := 16) dX4_toldByAllOwnSides_16 ?_
      refine v_istore_n X (pc := 17) (L2 := [(1, .int (x1 + q13)), (0, .ref (a 0)), (2, .int x2)]) dX4_toldByAllOwnSides_17 rfl (by decide) rfl ?_
      refine v_iinc X (pc := 18) (v := (x2 + 1)) (L2 := [(2, .int (x2 + 1)), (1, .int (x1 + q13)), (0, .ref (a 0))]) dX4_toldByAllOwnSides_18 2 rfl (by first | rfl | decide) (by decide) rfl ?_
      refine v_goto X (pc := 21) (tgt := 4) dX4_toldByAllOwnSides_21 (by decide) ?_
      refine v_sub (L2 := [(0, .ref (a 0)), (1, .int (x1 + q13)), (2, .int (x2 + 1))]) [2, 1, 0] rfl ?_
      exact ih (x1 + q13) (x2 + 1) h F
def f_X4_toldByAllOwnSides (σ : Blk) : Option (Int32) :=
  f_X4_toldByAllOwnSides_L4 σ FU 0 1
set_option maxHeartbeats 4000000 in
set_option maxRecDepth 100000 in
theorem c_X4_toldByAllOwnSides (l : Launch) (g : Gl) (a : Nat → Nat) (σ : Blk) {res : Int32} (h : f_X4_toldByAllOwnSides σ = some res) : Ok l g yX4_toldByAllOwnSides cX4_toldByAllOwnSides 3 (Option.some FieldType.int) 4 87 [.ref (a 0)] (wSt g a σ) (some (.int res)) (wSt g a σ) := by
  refine Ok.of RX4 (by decide) rfl (Nat.le_of_ble_eq_true rfl) (fun x hl hg X F => ?_)
  subst hg; subst hl
  rw [f_X4_toldByAllOwnSides] at h
  show V x (wSt x.g a σ) [(0, .ref (a 0))] [] 0
  refine v_iconst X (pc := 0) (v := 0) dX4_toldByAllOwnSides_0 (by decide) ?_
  refine v_istore_n X (pc := 1) (L2 := [(1, .int 0), (0, .ref (a 0))]) dX4_toldByAllOwnSides_1 rfl (by decide) rfl ?_
  refine v_iconst X (pc := 2) (v := 1) dX4_toldByAllOwnSides_2 (by decide) ?_
  refine v_istore_n X (pc := 3) (L2 := [(2, .int 1), (1, .int 0), (0, .ref (a 0))]) dX4_toldByAllOwnSides_3 rfl (by decide) rfl ?_
  refine v_sub (L2 := [(0, .ref (a 0)), (1, .int 0), (2, .int 1)]) [2, 1, 0] rfl ?_
  exact v_X4_toldByAllOwnSides_L4 X a σ FU 0 1 h F
theorem cw_X4_toldByAllOwnSides : CwB yX4_toldByAllOwnSides cX4_toldByAllOwnSides 3 (Option.some FieldType.int) 0 := ⟨q_273, q_15, by decide, by decide, by decide +kernel⟩
def f_X4_toldByAllFarSides_L4 (σ : Blk) : Nat → Int32 → Int32 → Option (Int32)
  | 0, _, _ => none
  | n + 1, x1, x2 =>
    (if 6 ≤ x2 then some x1 else (f_X4_toldByFarSides σ x2).bind fun q13 => f_X4_toldByAllFarSides_L4 σ n (x1 + q13) (x2 + 1))
set_option maxHeartbeats 4000000 in
set_option maxRecDepth 100000 in
theorem v_X4_toldByAllFarSides_L4 {x : Ctx} (X : Cx x RX4 cX4_toldByAllFarSides 3 4 87) (a : Nat → Nat) (σ : Blk) : ∀ (n : Nat) (x1 : Int32) (x2 : Int32) {res : Int32}, f_X4_toldByAllFarSides_L4 σ n x1 x2 = some res → Fn x (Option.some FieldType.int) (some (.int res)) (wSt x.g a σ) → V x (wSt x.g a σ) [(0, .ref (a 0)), (1, .int x1), (2, .int x2)] [] 4 := by
  intro n
  induction n with
  | zero =>
    intro x1 x2 res h F
    rw [f_X4_toldByAllFarSides_L4] at h
    cases h
  | succ n ih =>
    intro x1 x2 res h F
    rw [f_X4_toldByAllFarSides_L4] at h
    refine v_iload_n X (pc := 4) dX4_toldByAllFarSides_4 rfl 2 rfl ?_
    refine v_bipush X (pc := 5) (v := 6) dX4_toldByAllFarSides_5 (by decide) ?_
    refine v_icmpge X (pc := 7) (tgt := 24) dX4_toldByAllFarSides_7 (by decide) (fun c => ?_) (fun c => ?_)
    · replace h := hp c h
      refine v_iload_n X (pc := 24) dX4_toldByAllFarSides_24 rfl 1 rfl ?_
      replace h := oi h
      subst h
      exact v_iret X (pc := 25) F dX4_toldByAllFarSides_25
    · replace h := hn c h
      refine v_iload_n X (pc := 10) dX4_toldByAllFarSides_10 rfl 1 rfl ?_
      refine v_aload_n X (pc := 11) dX4_toldByAllFarSides_11 rfl 0 rfl ?_
      refine v_iload_n X (pc := 12) dX4_toldByAllFarSides_12 rfl 2 rfl ?_
      obtain ⟨q13, e13, h⟩ := ob h
      refine v_callV X (pc := 13) (st1 := [.int q13, .int x1]) (w' := (wSt x.g a σ)) [.int x2] [.int x1] (c_X4_toldByFarSides x.l x.g a σ x2 e13) rfl rfl cw_X4_toldByFarSides q_291 q_292 q_293 ⟨by decide, by decide⟩ 0 4 rfl rfl rfl (Fr.all rfl) rfl (Nat.le_of_ble_eq_true rfl) dX4_toldByAllFarSides_13 ?_
      refine v_iadd X (pc := 16) dX4_toldByAllFarSides_16 ?_
      refine v_istore_n X (pc := 17) (L2 := [(1, .int (x1 + q13)), (0, .ref (a 0)), (2, .int x2)]) dX4_toldByAllFarSides_17 rfl (by decide) rfl ?_
      refine v_iinc X (pc := 18) (v := (x2 + 1)) (L2 := [(2, .int (x2 + 1)), (1, .int (x1 + q13)), (0, .ref (a 0))]) dX4_toldByAllFarSides_18 2 rfl (by first | rfl | decide) (by decide) rfl ?_
      refine v_goto X (pc := 21) (tgt := 4) dX4_toldByAllFarSides_21 (by decide) ?_
      refine v_sub (L2 := [(0, .ref (a 0)), (1, .int (x1 + q13)), (2, .int (x2 + 1))]) [2, 1, 0] rfl ?_
      exact ih (x1 + q13) (x2 + 1) h F
def f_X4_toldByAllFarSides (σ : Blk) : Option (Int32) :=
  f_X4_toldByAllFarSides_L4 σ FU 0 1
set_option maxHeartbeats 4000000 in
set_option maxRecDepth 100000 in
theorem c_X4_toldByAllFarSides (l : Launch) (g : Gl) (a : Nat → Nat) (σ : Blk) {res : Int32} (h : f_X4_toldByAllFarSides σ = some res) : Ok l g yX4_toldByAllFarSides cX4_toldByAllFarSides 3 (Option.some FieldType.int) 4 87 [.ref (a 0)] (wSt g a σ) (some (.int res)) (wSt g a σ) := by
  refine Ok.of RX4 (by decide) rfl (Nat.le_of_ble_eq_true rfl) (fun x hl hg X F => ?_)
  subst hg; subst hl
  rw [f_X4_toldByAllFarSides] at h
  show V x (wSt x.g a σ) [(0, .ref (a 0))] [] 0
  refine v_iconst X (pc := 0) (v := 0) dX4_toldByAllFarSides_0 (by decide) ?_
  refine v_istore_n X (pc := 1) (L2 := [(1, .int 0), (0, .ref (a 0))]) dX4_toldByAllFarSides_1 rfl (by decide) rfl ?_
  refine v_iconst X (pc := 2) (v := 1) dX4_toldByAllFarSides_2 (by decide) ?_
  refine v_istore_n X (pc := 3) (L2 := [(2, .int 1), (1, .int 0), (0, .ref (a 0))]) dX4_toldByAllFarSides_3 rfl (by decide) rfl ?_
  refine v_sub (L2 := [(0, .ref (a 0)), (1, .int 0), (2, .int 1)]) [2, 1, 0] rfl ?_
  exact v_X4_toldByAllFarSides_L4 X a σ FU 0 1 h F
theorem cw_X4_toldByAllFarSides : CwB yX4_toldByAllFarSides cX4_toldByAllFarSides 3 (Option.some FieldType.int) 0 := ⟨q_290, q_15, by decide, by decide, by decide +kernel⟩
def f_X4_sumOfAllHalls_L4 (n1 : Nat) (f1 : Row) : Nat → Int32 → Int32 → Option (Int32)
  | 0, _, _ => none
  | n + 1, x1, x2 =>
    (if 6 ≤ x2 then some x1 else (f_X5_at n1 f1 x2).bind fun q13 => f_X4_sumOfAllHalls_L4 n1 f1 n (x1 + q13) (x2 + 1))
set_option maxHeartbeats 4000000 in
set_option maxRecDepth 100000 in
theorem v_X4_sumOfAllHalls_L4 {x : Ctx} (X : Cx x RX4 cX4_sumOfAllHalls 3 1 21) (b1 : Nat) (n1 : Nat) (f1 : Row) : ∀ (n : Nat) (x1 : Int32) (x2 : Int32) {res : Int32}, f_X4_sumOfAllHalls_L4 n1 f1 n x1 x2 = some res → Fn x (Option.some FieldType.int) (some (.int res)) ([wRow x.g b1 n1 f1]) → V x ([wRow x.g b1 n1 f1]) [(0, .ref b1), (1, .int x1), (2, .int x2)] [] 4 := by
  intro n
  induction n with
  | zero =>
    intro x1 x2 res h F
    rw [f_X4_sumOfAllHalls_L4] at h
    cases h
  | succ n ih =>
    intro x1 x2 res h F
    rw [f_X4_sumOfAllHalls_L4] at h
    refine v_iload_n X (pc := 4) dX4_sumOfAllHalls_4 rfl 2 rfl ?_
    refine v_bipush X (pc := 5) (v := 6) dX4_sumOfAllHalls_5 (by decide) ?_
    refine v_icmpge X (pc := 7) (tgt := 24) dX4_sumOfAllHalls_7 (by decide) (fun c => ?_) (fun c => ?_)
    · replace h := hp c h
      refine v_iload_n X (pc := 24) dX4_sumOfAllHalls_24 rfl 1 rfl ?_
      replace h := oi h
      subst h
      exact v_iret X (pc := 25) F dX4_sumOfAllHalls_25
    · replace h := hn c h
      refine v_iload_n X (pc := 10) dX4_sumOfAllHalls_10 rfl 1 rfl ?_
      refine v_aload_n X (pc := 11) dX4_sumOfAllHalls_11 rfl 0 rfl ?_
      refine v_iload_n X (pc := 12) dX4_sumOfAllHalls_12 rfl 2 rfl ?_
      obtain ⟨q13, e13, h⟩ := ob h
      refine v_callSN X (pc := 13) (st1 := [.int q13, .int x1]) (w' := ([wRow x.g b1 n1 f1])) [.ref b1, .int x2] [.int x1] (c_X5_at x.l x.g b1 n1 f1 x2 e13) rfl rfl cw_X5_at k_23 q_221 ⟨by decide, by decide⟩ (Fr.all rfl) rfl (Nat.le_of_ble_eq_true rfl) dX4_sumOfAllHalls_13 ?_
      refine v_iadd X (pc := 16) dX4_sumOfAllHalls_16 ?_
      refine v_istore_n X (pc := 17) (L2 := [(1, .int (x1 + q13)), (0, .ref b1), (2, .int x2)]) dX4_sumOfAllHalls_17 rfl (by decide) rfl ?_
      refine v_iinc X (pc := 18) (v := (x2 + 1)) (L2 := [(2, .int (x2 + 1)), (1, .int (x1 + q13)), (0, .ref b1)]) dX4_sumOfAllHalls_18 2 rfl (by first | rfl | decide) (by decide) rfl ?_
      refine v_goto X (pc := 21) (tgt := 4) dX4_sumOfAllHalls_21 (by decide) ?_
      refine v_sub (L2 := [(0, .ref b1), (1, .int (x1 + q13)), (2, .int (x2 + 1))]) [2, 1, 0] rfl ?_
      exact ih (x1 + q13) (x2 + 1) h F
def f_X4_sumOfAllHalls (n1 : Nat) (f1 : Row) : Option (Int32) :=
  f_X4_sumOfAllHalls_L4 n1 f1 FU 0 1
set_option maxHeartbeats 4000000 in
set_option maxRecDepth 100000 in
theorem c_X4_sumOfAllHalls (l : Launch) (g : Gl) (b1 : Nat) (n1 : Nat) (f1 : Row) {res : Int32} (h : f_X4_sumOfAllHalls n1 f1 = some res) : Ok l g yX4_sumOfAllHalls cX4_sumOfAllHalls 3 (Option.some FieldType.int) 1 21 [.ref b1] ([wRow g b1 n1 f1]) (some (.int res)) ([wRow g b1 n1 f1]) := by
  refine Ok.of RX4 (by decide) rfl (Nat.le_of_ble_eq_true rfl) (fun x hl hg X F => ?_)
  subst hg; subst hl
  rw [f_X4_sumOfAllHalls] at h
  show V x ([wRow x.g b1 n1 f1]) [(0, .ref b1)] [] 0
  refine v_iconst X (pc := 0) (v := 0) dX4_sumOfAllHalls_0 (by decide) ?_
  refine v_istore_n X (pc := 1) (L2 := [(1, .int 0), (0, .ref b1)]) dX4_sumOfAllHalls_1 rfl (by decide) rfl ?_
  refine v_iconst X (pc := 2) (v := 1) dX4_sumOfAllHalls_2 (by decide) ?_
  refine v_istore_n X (pc := 3) (L2 := [(2, .int 1), (1, .int 0), (0, .ref b1)]) dX4_sumOfAllHalls_3 rfl (by decide) rfl ?_
  refine v_sub (L2 := [(0, .ref b1), (1, .int 0), (2, .int 1)]) [2, 1, 0] rfl ?_
  exact v_X4_sumOfAllHalls_L4 X b1 n1 f1 FU 0 1 h F
theorem cw_X4_sumOfAllHalls : CwB yX4_sumOfAllHalls cX4_sumOfAllHalls 3 (Option.some FieldType.int) 1 := ⟨q_219, q_15, by decide, by decide, by decide +kernel⟩
def f_X4_peopleOfAllHalls (σ : Blk) : Option (Int32) :=
  (f_X4_sumOfAllHalls 6 (σ 2)).bind fun q4 => some q4
set_option maxHeartbeats 4000000 in
set_option maxRecDepth 100000 in
theorem c_X4_peopleOfAllHalls (l : Launch) (g : Gl) (a : Nat → Nat) (σ : Blk) {res : Int32} (h : f_X4_peopleOfAllHalls σ = some res) : Ok l g yX4_peopleOfAllHalls cX4_peopleOfAllHalls 1 (Option.some FieldType.int) 2 43 [.ref (a 0)] (wSt g a σ) (some (.int res)) (wSt g a σ) := by
  refine Ok.of RX4 (by decide) rfl (Nat.le_of_ble_eq_true rfl) (fun x hl hg X F => ?_)
  subst hg; subst hl
  rw [f_X4_peopleOfAllHalls] at h
  show V x (wSt x.g a σ) [(0, .ref (a 0))] [] 0
  refine v_aload_n X (pc := 0) dX4_peopleOfAllHalls_0 rfl 0 rfl ?_
  refine v_get X (pc := 1) (v := .ref (a 2)) uw4 0 rfl rfl 1 (by decide) q_60 rfl rfl dX4_peopleOfAllHalls_1 ?_
  obtain ⟨q4, e4, h⟩ := ob h
  refine v_callS X (pc := 4) (st1 := [.int q4]) (w' := (wSt x.g a σ)) [.ref (a 2)] [] (c_X4_sumOfAllHalls x.l x.g (a 2) 6 (σ 2) e4) rfl rfl cw_X4_sumOfAllHalls q_217 q_218 ⟨by decide, by decide⟩ (Fr.of [2] rfl rfl rfl rfl rfl) rfl (Nat.le_of_ble_eq_true rfl) dX4_peopleOfAllHalls_4 ?_
  replace h := oi h
  subst h
  exact v_iret X (pc := 7) F dX4_peopleOfAllHalls_7
theorem cw_X4_peopleOfAllHalls : CwB yX4_peopleOfAllHalls cX4_peopleOfAllHalls 1 (Option.some FieldType.int) 0 := ⟨q_216, q_15, by decide, by decide, by decide +kernel⟩
def f_X4_roomsOfAllHalls (σ : Blk) : Option (Int32) :=
  (f_X4_sumOfAllHalls 6 (σ 1)).bind fun q4 => some q4
set_option maxHeartbeats 4000000 in
set_option maxRecDepth 100000 in
theorem c_X4_roomsOfAllHalls (l : Launch) (g : Gl) (a : Nat → Nat) (σ : Blk) {res : Int32} (h : f_X4_roomsOfAllHalls σ = some res) : Ok l g yX4_roomsOfAllHalls cX4_roomsOfAllHalls 1 (Option.some FieldType.int) 2 43 [.ref (a 0)] (wSt g a σ) (some (.int res)) (wSt g a σ) := by
  refine Ok.of RX4 (by decide) rfl (Nat.le_of_ble_eq_true rfl) (fun x hl hg X F => ?_)
  subst hg; subst hl
  rw [f_X4_roomsOfAllHalls] at h
  show V x (wSt x.g a σ) [(0, .ref (a 0))] [] 0
  refine v_aload_n X (pc := 0) dX4_roomsOfAllHalls_0 rfl 0 rfl ?_
  refine v_get X (pc := 1) (v := .ref (a 1)) uw4 0 rfl rfl 0 (by decide) q_58 rfl rfl dX4_roomsOfAllHalls_1 ?_
  obtain ⟨q4, e4, h⟩ := ob h
  refine v_callS X (pc := 4) (st1 := [.int q4]) (w' := (wSt x.g a σ)) [.ref (a 1)] [] (c_X4_sumOfAllHalls x.l x.g (a 1) 6 (σ 1) e4) rfl rfl cw_X4_sumOfAllHalls q_217 q_218 ⟨by decide, by decide⟩ (Fr.of [1] rfl rfl rfl rfl rfl) rfl (Nat.le_of_ble_eq_true rfl) dX4_roomsOfAllHalls_4 ?_
  replace h := oi h
  subst h
  exact v_iret X (pc := 7) F dX4_roomsOfAllHalls_7
theorem cw_X4_roomsOfAllHalls : CwB yX4_roomsOfAllHalls cX4_roomsOfAllHalls 1 (Option.some FieldType.int) 0 := ⟨q_557, q_15, by decide, by decide, by decide +kernel⟩
def f_X4_fullestHall_L6 (σ : Blk) : Nat → Int32 → Int32 → Option (Int32)
  | 0, _, _ => none
  | n + 1, x1, x2 =>
    (if 6 ≤ x2 then some x1 else (f_X5_at 6 (σ 1) x2).bind fun q17 => (f_X5_at 6 (σ 2) x2).bind fun q25 => (f_X5_at 6 (σ 1) x1).bind fun q36 => (f_X5_at 6 (σ 2) x1).bind fun q44 => (if (q36 - q44) ≤ (q17 - q25) then f_X4_fullestHall_L6 σ n x1 (x2 + 1) else f_X4_fullestHall_L6 σ n x2 (x2 + 1)))
set_option maxHeartbeats 4000000 in
set_option maxRecDepth 100000 in
theorem v_X4_fullestHall_L6 {x : Ctx} (X : Cx x RX4 cX4_fullestHall 4 1 21) (a : Nat → Nat) (σ : Blk) : ∀ (n : Nat) (x1 : Int32) (x2 : Int32) {res : Int32}, f_X4_fullestHall_L6 σ n x1 x2 = some res → Fn x (Option.some FieldType.int) (some (.int res)) (wSt x.g a σ) → V x (wSt x.g a σ) [(0, .ref (a 0)), (1, .int x1), (2, .int x2)] [] 6 := by
  intro n
  induction n with
  | zero =>
    intro x1 x2 res h F
    rw [f_X4_fullestHall_L6] at h
    cases h
  | succ n ih =>
    intro x1 x2 res h F
    rw [f_X4_fullestHall_L6] at h
    refine v_iload_n X (pc := 6) dX4_fullestHall_6 rfl 2 rfl ?_
    refine v_bipush X (pc := 7) (v := 6) dX4_fullestHall_7 (by decide) ?_
    refine v_icmpge X (pc := 9) (tgt := 59) dX4_fullestHall_9 (by decide) (fun c => ?_) (fun c => ?_)
    · replace h := hp c h
      refine v_iload_n X (pc := 59) dX4_fullestHall_59 rfl 1 rfl ?_
      replace h := oi h
      subst h
      exact v_iret X (pc := 60) F dX4_fullestHall_60
    · replace h := hn c h
      refine v_aload_n X (pc := 12) dX4_fullestHall_12 rfl 0 rfl ?_
      refine v_get X (pc := 13) (v := .ref (a 1)) uw4 0 rfl rfl 0 (by decide) q_58 rfl rfl dX4_fullestHall_13 ?_
      refine v_iload_n X (pc := 16) dX4_fullestHall_16 rfl 2 rfl ?_
      obtain ⟨q17, e17, h⟩ := ob h
      refine v_callSN X (pc := 17) (st1 := [.int q17]) (w' := (wSt x.g a σ)) [.ref (a 1), .int x2] [] (c_X5_at x.l x.g (a 1) 6 (σ 1) x2 e17) rfl rfl cw_X5_at k_23 q_221 ⟨by decide, by decide⟩ (Fr.of [1] rfl rfl rfl rfl rfl) rfl (Nat.le_of_ble_eq_true rfl) dX4_fullestHall_17 ?_
      refine v_aload_n X (pc := 20) dX4_fullestHall_20 rfl 0 rfl ?_
      refine v_get X (pc := 21) (v := .ref (a 2)) uw4 0 rfl rfl 1 (by decide) q_60 rfl rfl dX4_fullestHall_21 ?_
      refine v_iload_n X (pc := 24) dX4_fullestHall_24 rfl 2 rfl ?_
      obtain ⟨q25, e25, h⟩ := ob h
      refine v_callSN X (pc := 25) (st1 := [.int q25, .int q17]) (w' := (wSt x.g a σ)) [.ref (a 2), .int x2] [.int q17] (c_X5_at x.l x.g (a 2) 6 (σ 2) x2 e25) rfl rfl cw_X5_at k_23 q_221 ⟨by decide, by decide⟩ (Fr.of [2] rfl rfl rfl rfl rfl) rfl (Nat.le_of_ble_eq_true rfl) dX4_fullestHall_25 ?_
      refine v_isub X (pc := 28) dX4_fullestHall_28 ?_
      refine v_istore_n X (pc := 29) (L2 := [(3, .int (q17 - q25)), (0, .ref (a 0)), (1, .int x1), (2, .int x2)]) dX4_fullestHall_29 rfl (by decide) rfl ?_
      refine v_iload_n X (pc := 30) dX4_fullestHall_30 rfl 0 rfl ?_
      refine v_aload_n X (pc := 31) dX4_fullestHall_31 rfl 1 rfl ?_
      refine v_get X (pc := 32) (v := .ref (a 1)) uw4 0 rfl rfl 0 (by decide) q_58 rfl rfl dX4_fullestHall_32 ?_
      refine v_iload_n X (pc := 35) dX4_fullestHall_35 rfl 2 rfl ?_
      obtain ⟨q36, e36, h⟩ := ob h
      refine v_callSN X (pc := 36) (st1 := [.int q36, .int (q17 - q25)]) (w' := (wSt x.g a σ)) [.ref (a 1), .int x1] [.int (q17 - q25)] (c_X5_at x.l x.g (a 1) 6 (σ 1) x1 e36) rfl rfl cw_X5_at k_23 q_221 ⟨by decide, by decide⟩ (Fr.of [1] rfl rfl rfl rfl rfl) rfl (Nat.le_of_ble_eq_true rfl) dX4_fullestHall_36 ?_
      refine v_aload_n X (pc := 39) dX4_fullestHall_39 rfl 1 rfl ?_
      refine v_get X (pc := 40) (v := .ref (a 2)) uw4 0 rfl rfl 1 (by decide) q_60 rfl rfl dX4_fullestHall_40 ?_
      refine v_iload_n X (pc := 43) dX4_fullestHall_43 rfl 2 rfl ?_
      obtain ⟨q44, e44, h⟩ := ob h
      refine v_callSN X (pc := 44) (st1 := [.int q44, .int q36, .int (q17 - q25)]) (w' := (wSt x.g a σ)) [.ref (a 2), .int x1] [.int q36, .int (q17 - q25)] (c_X5_at x.l x.g (a 2) 6 (σ 2) x1 e44) rfl rfl cw_X5_at k_23 q_221 ⟨by decide, by decide⟩ (Fr.of [2] rfl rfl rfl rfl rfl) rfl (Nat.le_of_ble_eq_true rfl) dX4_fullestHall_44 ?_
      refine v_isub X (pc := 47) dX4_fullestHall_47 ?_
      refine v_icmpge X (pc := 48) (tgt := 53) dX4_fullestHall_48 (by decide) (fun c => ?_) (fun c => ?_)
      · replace h := hp c h
        refine v_iinc X (pc := 53) (v := (x2 + 1)) (L2 := [(2, .int (x2 + 1)), (3, .int (q17 - q25)), (0, .ref (a 0)), (1, .int x1)]) dX4_fullestHall_53 3 rfl (by first | rfl | decide) (by decide) rfl ?_
        refine v_goto X (pc := 56) (tgt := 6) dX4_fullestHall_56 (by decide) ?_
        refine v_sub (L2 := [(0, .ref (a 0)), (1, .int x1), (2, .int (x2 + 1))]) [2, 3, 0] rfl ?_
        exact ih x1 (x2 + 1) h F
      · replace h := hn c h
        refine v_iload_n X (pc := 51) dX4_fullestHall_51 rfl 3 rfl ?_
        refine v_istore_n X (pc := 52) (L2 := [(1, .int x2), (3, .int (q17 - q25)), (0, .ref (a 0)), (2, .int x2)]) dX4_fullestHall_52 rfl (by decide) rfl ?_
        refine v_iinc X (pc := 53) (v := (x2 + 1)) (L2 := [(2, .int (x2 + 1)), (1, .int x2), (3, .int (q17 - q25)), (0, .ref (a 0))]) dX4_fullestHall_53 3 rfl (by first | rfl | decide) (by decide) rfl ?_
        refine v_goto X (pc := 56) (tgt := 6) dX4_fullestHall_56 (by decide) ?_
        refine v_sub (L2 := [(0, .ref (a 0)), (1, .int x2), (2, .int (x2 + 1))]) [3, 1, 0] rfl ?_
        exact ih x2 (x2 + 1) h F
def f_X4_fullestHall (σ : Blk) : Option (Int32) :=
  f_X4_fullestHall_L6 σ FU 1 (1 + 1)
set_option maxHeartbeats 4000000 in
set_option maxRecDepth 100000 in
theorem c_X4_fullestHall (l : Launch) (g : Gl) (a : Nat → Nat) (σ : Blk) {res : Int32} (h : f_X4_fullestHall σ = some res) : Ok l g yX4_fullestHall cX4_fullestHall 4 (Option.some FieldType.int) 1 21 [.ref (a 0)] (wSt g a σ) (some (.int res)) (wSt g a σ) := by
  refine Ok.of RX4 (by decide) rfl (Nat.le_of_ble_eq_true rfl) (fun x hl hg X F => ?_)
  subst hg; subst hl
  rw [f_X4_fullestHall] at h
  show V x (wSt x.g a σ) [(0, .ref (a 0))] [] 0
  refine v_iconst X (pc := 0) (v := 1) dX4_fullestHall_0 (by decide) ?_
  refine v_istore_n X (pc := 1) (L2 := [(1, .int 1), (0, .ref (a 0))]) dX4_fullestHall_1 rfl (by decide) rfl ?_
  refine v_iload_n X (pc := 2) dX4_fullestHall_2 rfl 0 rfl ?_
  refine v_iconst X (pc := 3) (v := 1) dX4_fullestHall_3 (by decide) ?_
  refine v_iadd X (pc := 4) dX4_fullestHall_4 ?_
  refine v_istore_n X (pc := 5) (L2 := [(2, .int (1 + 1)), (1, .int 1), (0, .ref (a 0))]) dX4_fullestHall_5 rfl (by decide) rfl ?_
  refine v_sub (L2 := [(0, .ref (a 0)), (1, .int 1), (2, .int (1 + 1))]) [2, 1, 0] rfl ?_
  exact v_X4_fullestHall_L6 X a σ FU 1 (1 + 1) h F
theorem cw_X4_fullestHall : CwB yX4_fullestHall cX4_fullestHall 4 (Option.some FieldType.int) 0 := ⟨q_307, q_15, by decide, by decide, by decide +kernel⟩
def f_X4_stilesOfHall_L4 (σ : Blk) (x1 : Int32) : Nat → Int32 → Int32 → Option (Int32)
  | 0, _, _ => none
  | n + 1, x2, x3 =>
    (if (σ 0 0) ≤ x3 then some x2 else (f_X5_at 12 (σ 3) x3).bind fun q17 => (if q17 = x1 then f_X4_stilesOfHall_L4 σ x1 n (x2 + 1) (x3 + 1) else (f_X5_at 12 (σ 4) x3).bind fun q29 => (if q29 = x1 then f_X4_stilesOfHall_L4 σ x1 n (x2 + 1) (x3 + 1) else f_X4_stilesOfHall_L4 σ x1 n x2 (x3 + 1))))
set_option maxHeartbeats 4000000 in
set_option maxRecDepth 100000 in
theorem v_X4_stilesOfHall_L4 {x : Ctx} (X : Cx x RX4 cX4_stilesOfHall 4 1 21) (a : Nat → Nat) (σ : Blk) (x1 : Int32) : ∀ (n : Nat) (x2 : Int32) (x3 : Int32) {res : Int32}, f_X4_stilesOfHall_L4 σ x1 n x2 x3 = some res → Fn x (Option.some FieldType.int) (some (.int res)) (wSt x.g a σ) → V x (wSt x.g a σ) [(0, .ref (a 0)), (1, .int x1), (2, .int x2), (3, .int x3)] [] 4 := by
  intro n
  induction n with
  | zero =>
    intro x2 x3 res h F
    rw [f_X4_stilesOfHall_L4] at h
    cases h
  | succ n ih =>
    intro x2 x3 res h F
    rw [f_X4_stilesOfHall_L4] at h
    refine v_iload_n X (pc := 4) dX4_stilesOfHall_4 rfl 3 rfl ?_
    refine v_aload_n X (pc := 5) dX4_stilesOfHall_5 rfl 0 rfl ?_
    refine v_get X (pc := 6) (v := .int (σ 0 0)) uw4 0 rfl rfl 7 (by decide) q_72 rfl rfl dX4_stilesOfHall_6 ?_
    refine v_icmpge X (pc := 9) (tgt := 45) dX4_stilesOfHall_9 (by decide) (fun c => ?_) (fun c => ?_)
    · replace h := hp c h
      refine v_iload_n X (pc := 45) dX4_stilesOfHall_45 rfl 2 rfl ?_
      replace h := oi h
      subst h
      exact v_iret X (pc := 46) F dX4_stilesOfHall_46
    · replace h := hn c h
      refine v_aload_n X (pc := 12) dX4_stilesOfHall_12 rfl 0 rfl ?_
      refine v_get X (pc := 13) (v := .ref (a 3)) uw4 0 rfl rfl 2 (by decide) q_62 rfl rfl dX4_stilesOfHall_13 ?_
      refine v_iload_n X (pc := 16) dX4_stilesOfHall_16 rfl 3 rfl ?_
      obtain ⟨q17, e17, h⟩ := ob h
      refine v_callSN X (pc := 17) (st1 := [.int q17]) (w' := (wSt x.g a σ)) [.ref (a 3), .int x3] [] (c_X5_at x.l x.g (a 3) 12 (σ 3) x3 e17) rfl rfl cw_X5_at k_23 q_221 ⟨by decide, by decide⟩ (Fr.of [3] rfl rfl rfl rfl rfl) rfl (Nat.le_of_ble_eq_true rfl) dX4_stilesOfHall_17 ?_
      refine v_iload_n X (pc := 20) dX4_stilesOfHall_20 rfl 1 rfl ?_
      refine v_icmpeq X (pc := 21) (tgt := 36) dX4_stilesOfHall_21 (by decide) (fun c => ?_) (fun c => ?_)
      · replace h := hp c h
        refine v_iinc X (pc := 36) (v := (x2 + 1)) (L2 := [(2, .int (x2 + 1)), (0, .ref (a 0)), (1, .int x1), (3, .int x3)]) dX4_stilesOfHall_36 2 rfl (by first | rfl | decide) (by decide) rfl ?_
        refine v_iinc X (pc := 39) (v := (x3 + 1)) (L2 := [(3, .int (x3 + 1)), (2, .int (x2 + 1)), (0, .ref (a 0)), (1, .int x1)]) dX4_stilesOfHall_39 3 rfl (by first | rfl | decide) (by decide) rfl ?_
        refine v_goto X (pc := 42) (tgt := 4) dX4_stilesOfHall_42 (by decide) ?_
        refine v_sub (L2 := [(0, .ref (a 0)), (1, .int x1), (2, .int (x2 + 1)), (3, .int (x3 + 1))]) [2, 3, 1, 0] rfl ?_
        exact ih (x2 + 1) (x3 + 1) h F
      · replace h := hn c h
        refine v_aload_n X (pc := 24) dX4_stilesOfHall_24 rfl 0 rfl ?_
        refine v_get X (pc := 25) (v := .ref (a 4)) uw4 0 rfl rfl 3 (by decide) q_64 rfl rfl dX4_stilesOfHall_25 ?_
        refine v_iload_n X (pc := 28) dX4_stilesOfHall_28 rfl 3 rfl ?_
        obtain ⟨q29, e29, h⟩ := ob h
        refine v_callSN X (pc := 29) (st1 := [.int q29]) (w' := (wSt x.g a σ)) [.ref (a 4), .int x3] [] (c_X5_at x.l x.g (a 4) 12 (σ 4) x3 e29) rfl rfl cw_X5_at k_23 q_221 ⟨by decide, by decide⟩ (Fr.of [4] rfl rfl rfl rfl rfl) rfl (Nat.le_of_ble_eq_true rfl) dX4_stilesOfHall_29 ?_
        refine v_iload_n X (pc := 32) dX4_stilesOfHall_32 rfl 1 rfl ?_
        refine v_icmpne X (pc := 33) (tgt := 39) dX4_stilesOfHall_33 (by decide) (fun c => ?_) (fun c => ?_)
        · replace h := hn c h
          refine v_iinc X (pc := 39) (v := (x3 + 1)) (L2 := [(3, .int (x3 + 1)), (0, .ref (a 0)), (1, .int x1), (2, .int x2)]) dX4_stilesOfHall_39 3 rfl (by first | rfl | decide) (by decide) rfl ?_
          refine v_goto X (pc := 42) (tgt := 4) dX4_stilesOfHall_42 (by decide) ?_
          refine v_sub (L2 := [(0, .ref (a 0)), (1, .int x1), (2, .int x2), (3, .int (x3 + 1))]) [1, 2, 3, 0] rfl ?_
          exact ih x2 (x3 + 1) h F
        · replace h := hp c h
          refine v_iinc X (pc := 36) (v := (x2 + 1)) (L2 := [(2, .int (x2 + 1)), (0, .ref (a 0)), (1, .int x1), (3, .int x3)]) dX4_stilesOfHall_36 2 rfl (by first | rfl | decide) (by decide) rfl ?_
          refine v_iinc X (pc := 39) (v := (x3 + 1)) (L2 := [(3, .int (x3 + 1)), (2, .int (x2 + 1)), (0, .ref (a 0)), (1, .int x1)]) dX4_stilesOfHall_39 3 rfl (by first | rfl | decide) (by decide) rfl ?_
          refine v_goto X (pc := 42) (tgt := 4) dX4_stilesOfHall_42 (by decide) ?_
          refine v_sub (L2 := [(0, .ref (a 0)), (1, .int x1), (2, .int (x2 + 1)), (3, .int (x3 + 1))]) [2, 3, 1, 0] rfl ?_
          exact ih (x2 + 1) (x3 + 1) h F
def f_X4_stilesOfHall (σ : Blk) (x1 : Int32) : Option (Int32) :=
  f_X4_stilesOfHall_L4 σ x1 FU 0 0
set_option maxHeartbeats 4000000 in
set_option maxRecDepth 100000 in
theorem c_X4_stilesOfHall (l : Launch) (g : Gl) (a : Nat → Nat) (σ : Blk) (x1 : Int32) {res : Int32} (h : f_X4_stilesOfHall σ x1 = some res) : Ok l g yX4_stilesOfHall cX4_stilesOfHall 4 (Option.some FieldType.int) 1 21 [.ref (a 0), .int x1] (wSt g a σ) (some (.int res)) (wSt g a σ) := by
  refine Ok.of RX4 (by decide) rfl (Nat.le_of_ble_eq_true rfl) (fun x hl hg X F => ?_)
  subst hg; subst hl
  rw [f_X4_stilesOfHall] at h
  show V x (wSt x.g a σ) [(0, .ref (a 0)), (1, .int x1)] [] 0
  refine v_iconst X (pc := 0) (v := 0) dX4_stilesOfHall_0 (by decide) ?_
  refine v_istore_n X (pc := 1) (L2 := [(2, .int 0), (0, .ref (a 0)), (1, .int x1)]) dX4_stilesOfHall_1 rfl (by decide) rfl ?_
  refine v_iconst X (pc := 2) (v := 0) dX4_stilesOfHall_2 (by decide) ?_
  refine v_istore_n X (pc := 3) (L2 := [(3, .int 0), (2, .int 0), (0, .ref (a 0)), (1, .int x1)]) dX4_stilesOfHall_3 rfl (by decide) rfl ?_
  refine v_sub (L2 := [(0, .ref (a 0)), (1, .int x1), (2, .int 0), (3, .int 0)]) [2, 3, 1, 0] rfl ?_
  exact v_X4_stilesOfHall_L4 X a σ x1 FU 0 0 h F
theorem cw_X4_stilesOfHall : CwB yX4_stilesOfHall cX4_stilesOfHall 4 (Option.some FieldType.int) 1 := ⟨q_519, q_15, by decide, by decide, by decide +kernel⟩
def f_X4_stilesUnderRepair_L4 (σ : Blk) : Nat → Int32 → Int32 → Option (Int32)
  | 0, _, _ => none
  | n + 1, x1, x2 =>
    (if (σ 0 0) ≤ x2 then some x1 else (f_X4_isUnderRepair σ x2).bind fun q14 => (if q14 = true then f_X4_stilesUnderRepair_L4 σ n (x1 + 1) (x2 + 1) else f_X4_stilesUnderRepair_L4 σ n x1 (x2 + 1)))
set_option maxHeartbeats 4000000 in
set_option maxRecDepth 100000 in
theorem v_X4_stilesUnderRepair_L4 {x : Ctx} (X : Cx x RX4 cX4_stilesUnderRepair 3 2 42) (a : Nat → Nat) (σ : Blk) : ∀ (n : Nat) (x1 : Int32) (x2 : Int32) {res : Int32}, f_X4_stilesUnderRepair_L4 σ n x1 x2 = some res → Fn x (Option.some FieldType.int) (some (.int res)) (wSt x.g a σ) → V x (wSt x.g a σ) [(0, .ref (a 0)), (1, .int x1), (2, .int x2)] [] 4 := by
  intro n
  induction n with
  | zero =>
    intro x1 x2 res h F
    rw [f_X4_stilesUnderRepair_L4] at h
    cases h
  | succ n ih =>
    intro x1 x2 res h F
    rw [f_X4_stilesUnderRepair_L4] at h
    refine v_iload_n X (pc := 4) dX4_stilesUnderRepair_4 rfl 2 rfl ?_
    refine v_aload_n X (pc := 5) dX4_stilesUnderRepair_5 rfl 0 rfl ?_
    refine v_get X (pc := 6) (v := .int (σ 0 0)) uw4 0 rfl rfl 7 (by decide) q_72 rfl rfl dX4_stilesUnderRepair_6 ?_
    refine v_icmpge X (pc := 9) (tgt := 29) dX4_stilesUnderRepair_9 (by decide) (fun c => ?_) (fun c => ?_)
    · replace h := hp c h
      refine v_iload_n X (pc := 29) dX4_stilesUnderRepair_29 rfl 1 rfl ?_
      replace h := oi h
      subst h
      exact v_iret X (pc := 30) F dX4_stilesUnderRepair_30
    · replace h := hn c h
      refine v_aload_n X (pc := 12) dX4_stilesUnderRepair_12 rfl 0 rfl ?_
      refine v_iload_n X (pc := 13) dX4_stilesUnderRepair_13 rfl 2 rfl ?_
      obtain ⟨q14, e14, h⟩ := ob h
      refine v_callV X (pc := 14) (st1 := [.int (b2i q14)]) (w' := (wSt x.g a σ)) [.int x2] [] (c_X4_isUnderRepair x.l x.g a σ x2 e14) rfl rfl cw_X4_isUnderRepair q_266 q_267 q_268 ⟨by decide, by decide⟩ 0 4 rfl rfl rfl (Fr.all rfl) rfl (Nat.le_of_ble_eq_true rfl) dX4_stilesUnderRepair_14 ?_
      refine v_ifeqB X (pc := 17) (tgt := 23) dX4_stilesUnderRepair_17 (by decide) (fun c => ?_) (fun c => ?_)
      · replace h := hn (nbt c) h
        refine v_iinc X (pc := 23) (v := (x2 + 1)) (L2 := [(2, .int (x2 + 1)), (0, .ref (a 0)), (1, .int x1)]) dX4_stilesUnderRepair_23 2 rfl (by first | rfl | decide) (by decide) rfl ?_
        refine v_goto X (pc := 26) (tgt := 4) dX4_stilesUnderRepair_26 (by decide) ?_
        refine v_sub (L2 := [(0, .ref (a 0)), (1, .int x1), (2, .int (x2 + 1))]) [1, 2, 0] rfl ?_
        exact ih x1 (x2 + 1) h F
      · replace h := hp c h
        refine v_iinc X (pc := 20) (v := (x1 + 1)) (L2 := [(1, .int (x1 + 1)), (0, .ref (a 0)), (2, .int x2)]) dX4_stilesUnderRepair_20 1 rfl (by first | rfl | decide) (by decide) rfl ?_
        refine v_iinc X (pc := 23) (v := (x2 + 1)) (L2 := [(2, .int (x2 + 1)), (1, .int (x1 + 1)), (0, .ref (a 0))]) dX4_stilesUnderRepair_23 2 rfl (by first | rfl | decide) (by decide) rfl ?_
        refine v_goto X (pc := 26) (tgt := 4) dX4_stilesUnderRepair_26 (by decide) ?_
        refine v_sub (L2 := [(0, .ref (a 0)), (1, .int (x1 + 1)), (2, .int (x2 + 1))]) [2, 1, 0] rfl ?_
        exact ih (x1 + 1) (x2 + 1) h F
def f_X4_stilesUnderRepair (σ : Blk) : Option (Int32) :=
  f_X4_stilesUnderRepair_L4 σ FU 0 0
set_option maxHeartbeats 4000000 in
set_option maxRecDepth 100000 in
theorem c_X4_stilesUnderRepair (l : Launch) (g : Gl) (a : Nat → Nat) (σ : Blk) {res : Int32} (h : f_X4_stilesUnderRepair σ = some res) : Ok l g yX4_stilesUnderRepair cX4_stilesUnderRepair 3 (Option.some FieldType.int) 2 42 [.ref (a 0)] (wSt g a σ) (some (.int res)) (wSt g a σ) := by
  refine Ok.of RX4 (by decide) rfl (Nat.le_of_ble_eq_true rfl) (fun x hl hg X F => ?_)
  subst hg; subst hl
  rw [f_X4_stilesUnderRepair] at h
  show V x (wSt x.g a σ) [(0, .ref (a 0))] [] 0
  refine v_iconst X (pc := 0) (v := 0) dX4_stilesUnderRepair_0 (by decide) ?_
  refine v_istore_n X (pc := 1) (L2 := [(1, .int 0), (0, .ref (a 0))]) dX4_stilesUnderRepair_1 rfl (by decide) rfl ?_
  refine v_iconst X (pc := 2) (v := 0) dX4_stilesUnderRepair_2 (by decide) ?_
  refine v_istore_n X (pc := 3) (L2 := [(2, .int 0), (1, .int 0), (0, .ref (a 0))]) dX4_stilesUnderRepair_3 rfl (by decide) rfl ?_
  refine v_sub (L2 := [(0, .ref (a 0)), (1, .int 0), (2, .int 0)]) [2, 1, 0] rfl ?_
  exact v_X4_stilesUnderRepair_L4 X a σ FU 0 0 h F
theorem cw_X4_stilesUnderRepair : CwB yX4_stilesUnderRepair cX4_stilesUnderRepair 3 (Option.some FieldType.int) 0 := ⟨q_265, q_15, by decide, by decide, by decide +kernel⟩
def f_X4_sumOfGaps_L4 (σ : Blk) : Nat → Int32 → Int32 → Option (Int32)
  | 0, _, _ => none
  | n + 1, x1, x2 =>
    (if (σ 0 0) ≤ x2 then some x1 else (f_X1_gapOf σ x2).bind fun q18 => f_X4_sumOfGaps_L4 σ n (x1 + q18) (x2 + 1))
set_option maxHeartbeats 4000000 in
set_option maxRecDepth 100000 in
theorem v_X4_sumOfGaps_L4 {x : Ctx} (X : Cx x RX4 cX4_sumOfGaps 3 3 66) (a : Nat → Nat) (σ : Blk) : ∀ (n : Nat) (x1 : Int32) (x2 : Int32) {res : Int32}, f_X4_sumOfGaps_L4 σ n x1 x2 = some res → Fn x (Option.some FieldType.int) (some (.int res)) (wSt x.g a σ) → V x (wSt x.g a σ) [(0, .ref (a 0)), (1, .int x1), (2, .int x2)] [] 4 := by
  intro n
  induction n with
  | zero =>
    intro x1 x2 res h F
    rw [f_X4_sumOfGaps_L4] at h
    cases h
  | succ n ih =>
    intro x1 x2 res h F
    rw [f_X4_sumOfGaps_L4] at h
    refine v_iload_n X (pc := 4) dX4_sumOfGaps_4 rfl 2 rfl ?_
    refine v_aload_n X (pc := 5) dX4_sumOfGaps_5 rfl 0 rfl ?_
    refine v_get X (pc := 6) (v := .int (σ 0 0)) uw4 0 rfl rfl 7 (by decide) q_72 rfl rfl dX4_sumOfGaps_6 ?_
    refine v_icmpge X (pc := 9) (tgt := 29) dX4_sumOfGaps_9 (by decide) (fun c => ?_) (fun c => ?_)
    · replace h := hp c h
      refine v_iload_n X (pc := 29) dX4_sumOfGaps_29 rfl 1 rfl ?_
      replace h := oi h
      subst h
      exact v_iret X (pc := 30) F dX4_sumOfGaps_30
    · replace h := hn c h
      refine v_iload_n X (pc := 12) dX4_sumOfGaps_12 rfl 1 rfl ?_
      refine v_aload_n X (pc := 13) dX4_sumOfGaps_13 rfl 0 rfl ?_
      refine v_get X (pc := 14) (v := .ref (a 11)) uw4 0 rfl rfl 6 (by decide) q_70 rfl rfl dX4_sumOfGaps_14 ?_
      refine v_iload_n X (pc := 17) dX4_sumOfGaps_17 rfl 2 rfl ?_
      obtain ⟨q18, e18, h⟩ := ob h
      refine v_callV X (pc := 18) (st1 := [.int q18, .int x1]) (w' := (wSt x.g a σ)) [.int x2] [.int x1] (c_X1_gapOf x.l x.g a σ x2 e18) rfl rfl cw_X1_gapOf q_299 q_243 q_244 ⟨by decide, by decide⟩ 11 1 rfl rfl rfl (Fr.all rfl) rfl (Nat.le_of_ble_eq_true rfl) dX4_sumOfGaps_18 ?_
      refine v_iadd X (pc := 21) dX4_sumOfGaps_21 ?_
      refine v_istore_n X (pc := 22) (L2 := [(1, .int (x1 + q18)), (0, .ref (a 0)), (2, .int x2)]) dX4_sumOfGaps_22 rfl (by decide) rfl ?_
      refine v_iinc X (pc := 23) (v := (x2 + 1)) (L2 := [(2, .int (x2 + 1)), (1, .int (x1 + q18)), (0, .ref (a 0))]) dX4_sumOfGaps_23 2 rfl (by first | rfl | decide) (by decide) rfl ?_
      refine v_goto X (pc := 26) (tgt := 4) dX4_sumOfGaps_26 (by decide) ?_
      refine v_sub (L2 := [(0, .ref (a 0)), (1, .int (x1 + q18)), (2, .int (x2 + 1))]) [2, 1, 0] rfl ?_
      exact ih (x1 + q18) (x2 + 1) h F
def f_X4_sumOfGaps (σ : Blk) : Option (Int32) :=
  f_X4_sumOfGaps_L4 σ FU 0 0
set_option maxHeartbeats 4000000 in
set_option maxRecDepth 100000 in
theorem c_X4_sumOfGaps (l : Launch) (g : Gl) (a : Nat → Nat) (σ : Blk) {res : Int32} (h : f_X4_sumOfGaps σ = some res) : Ok l g yX4_sumOfGaps cX4_sumOfGaps 3 (Option.some FieldType.int) 3 66 [.ref (a 0)] (wSt g a σ) (some (.int res)) (wSt g a σ) := by
  refine Ok.of RX4 (by decide) rfl (Nat.le_of_ble_eq_true rfl) (fun x hl hg X F => ?_)
  subst hg; subst hl
  rw [f_X4_sumOfGaps] at h
  show V x (wSt x.g a σ) [(0, .ref (a 0))] [] 0
  refine v_iconst X (pc := 0) (v := 0) dX4_sumOfGaps_0 (by decide) ?_
  refine v_istore_n X (pc := 1) (L2 := [(1, .int 0), (0, .ref (a 0))]) dX4_sumOfGaps_1 rfl (by decide) rfl ?_
  refine v_iconst X (pc := 2) (v := 0) dX4_sumOfGaps_2 (by decide) ?_
  refine v_istore_n X (pc := 3) (L2 := [(2, .int 0), (1, .int 0), (0, .ref (a 0))]) dX4_sumOfGaps_3 rfl (by decide) rfl ?_
  refine v_sub (L2 := [(0, .ref (a 0)), (1, .int 0), (2, .int 0)]) [2, 1, 0] rfl ?_
  exact v_X4_sumOfGaps_L4 X a σ FU 0 0 h F
theorem cw_X4_sumOfGaps : CwB yX4_sumOfGaps cX4_sumOfGaps 3 (Option.some FieldType.int) 0 := ⟨q_298, q_15, by decide, by decide, by decide +kernel⟩
def f_X4_worseStiles_L14 (σ : Blk) (x1 : Int32) (x2 : Int32) : Nat → Int32 → Int32 → Option (Int32)
  | 0, _, _ => none
  | n + 1, x3, x4 =>
    (if (σ 0 0) ≤ x4 then some x3 else (f_X1_gapOf σ x4).bind fun q29 => (if x2 < q29 then f_X4_worseStiles_L14 σ x1 x2 n (x3 + 1) (x4 + 1) else (if q29 = x2 then (if x1 ≤ x4 then f_X4_worseStiles_L14 σ x1 x2 n x3 (x4 + 1) else f_X4_worseStiles_L14 σ x1 x2 n (x3 + 1) (x4 + 1)) else f_X4_worseStiles_L14 σ x1 x2 n x3 (x4 + 1))))
set_option maxHeartbeats 4000000 in
set_option maxRecDepth 100000 in
theorem v_X4_worseStiles_L14 {x : Ctx} (X : Cx x RX4 cX4_worseStiles 6 3 66) (a : Nat → Nat) (σ : Blk) (x1 : Int32) (x2 : Int32) : ∀ (n : Nat) (x3 : Int32) (x4 : Int32) {res : Int32}, f_X4_worseStiles_L14 σ x1 x2 n x3 x4 = some res → Fn x (Option.some FieldType.int) (some (.int res)) (wSt x.g a σ) → V x (wSt x.g a σ) [(0, .ref (a 0)), (1, .int x1), (2, .int x2), (3, .int x3), (4, .int x4)] [] 14 := by
  intro n
  induction n with
  | zero =>
    intro x3 x4 res h F
    rw [f_X4_worseStiles_L14] at h
    cases h
  | succ n ih =>
    intro x3 x4 res h F
    rw [f_X4_worseStiles_L14] at h
    refine v_iload X (pc := 14) dX4_worseStiles_14 4 rfl ?_
    refine v_aload_n X (pc := 16) dX4_worseStiles_16 rfl 0 rfl ?_
    refine v_get X (pc := 17) (v := .int (σ 0 0)) uw4 0 rfl rfl 7 (by decide) q_72 rfl rfl dX4_worseStiles_17 ?_
    refine v_icmpge X (pc := 20) (tgt := 61) dX4_worseStiles_20 (by decide) (fun c => ?_) (fun c => ?_)
    · replace h := hp c h
      refine v_iload_n X (pc := 61) dX4_worseStiles_61 rfl 3 rfl ?_
      replace h := oi h
      subst h
      exact v_iret X (pc := 62) F dX4_worseStiles_62
    · replace h := hn c h
      refine v_aload_n X (pc := 23) dX4_worseStiles_23 rfl 0 rfl ?_
      refine v_get X (pc := 24) (v := .ref (a 11)) uw4 0 rfl rfl 6 (by decide) q_70 rfl rfl dX4_worseStiles_24 ?_
      refine v_iload X (pc := 27) dX4_worseStiles_27 4 rfl ?_
      obtain ⟨q29, e29, h⟩ := ob h
      refine v_callV X (pc := 29) (st1 := [.int q29]) (w' := (wSt x.g a σ)) [.int x4] [] (c_X1_gapOf x.l x.g a σ x4 e29) rfl rfl cw_X1_gapOf q_299 q_243 q_244 ⟨by decide, by decide⟩ 11 1 rfl rfl rfl (Fr.all rfl) rfl (Nat.le_of_ble_eq_true rfl) dX4_worseStiles_29 ?_
      refine v_istore X (pc := 32) (L2 := [(5, .int q29), (0, .ref (a 0)), (1, .int x1), (2, .int x2), (3, .int x3), (4, .int x4)]) dX4_worseStiles_32 (by decide) rfl ?_
      refine v_iload X (pc := 34) dX4_worseStiles_34 0 rfl ?_
      refine v_iload_n X (pc := 36) dX4_worseStiles_36 rfl 3 rfl ?_
      refine v_icmpgt X (pc := 37) (tgt := 52) dX4_worseStiles_37 (by decide) (fun c => ?_) (fun c => ?_)
      · replace h := hp c h
        refine v_iinc X (pc := 52) (v := (x3 + 1)) (L2 := [(3, .int (x3 + 1)), (5, .int q29), (0, .ref (a 0)), (1, .int x1), (2, .int x2), (4, .int x4)]) dX4_worseStiles_52 4 rfl (by first | rfl | decide) (by decide) rfl ?_
        refine v_iinc X (pc := 55) (v := (x4 + 1)) (L2 := [(4, .int (x4 + 1)), (3, .int (x3 + 1)), (5, .int q29), (0, .ref (a 0)), (1, .int x1), (2, .int x2)]) dX4_worseStiles_55 5 rfl (by first | rfl | decide) (by decide) rfl ?_
        refine v_goto X (pc := 58) (tgt := 14) dX4_worseStiles_58 (by decide) ?_
        refine v_sub (L2 := [(0, .ref (a 0)), (1, .int x1), (2, .int x2), (3, .int (x3 + 1)), (4, .int (x4 + 1))]) [3, 4, 5, 1, 0] rfl ?_
        exact ih (x3 + 1) (x4 + 1) h F
      · replace h := hn c h
        refine v_iload X (pc := 40) dX4_worseStiles_40 0 rfl ?_
        refine v_iload_n X (pc := 42) dX4_worseStiles_42 rfl 3 rfl ?_
        refine v_icmpne X (pc := 43) (tgt := 55) dX4_worseStiles_43 (by decide) (fun c => ?_) (fun c => ?_)
        · replace h := hn c h
          refine v_iinc X (pc := 55) (v := (x4 + 1)) (L2 := [(4, .int (x4 + 1)), (5, .int q29), (0, .ref (a 0)), (1, .int x1), (2, .int x2), (3, .int x3)]) dX4_worseStiles_55 5 rfl (by first | rfl | decide) (by decide) rfl ?_
          refine v_goto X (pc := 58) (tgt := 14) dX4_worseStiles_58 (by decide) ?_
          refine v_sub (L2 := [(0, .ref (a 0)), (1, .int x1), (2, .int x2), (3, .int x3), (4, .int (x4 + 1))]) [2, 3, 4, 5, 0] rfl ?_
          exact ih x3 (x4 + 1) h F
        · replace h := hp c h
          refine v_iload X (pc := 46) dX4_worseStiles_46 5 rfl ?_
          refine v_iload_n X (pc := 48) dX4_worseStiles_48 rfl 2 rfl ?_
          refine v_icmpge X (pc := 49) (tgt := 55) dX4_worseStiles_49 (by decide) (fun c => ?_) (fun c => ?_)
          · replace h := hp c h
            refine v_iinc X (pc := 55) (v := (x4 + 1)) (L2 := [(4, .int (x4 + 1)), (5, .int q29), (0, .ref (a 0)), (1, .int x1), (2, .int x2), (3, .int x3)]) dX4_worseStiles_55 5 rfl (by first | rfl | decide) (by decide) rfl ?_
            refine v_goto X (pc := 58) (tgt := 14) dX4_worseStiles_58 (by decide) ?_
            refine v_sub (L2 := [(0, .ref (a 0)), (1, .int x1), (2, .int x2), (3, .int x3), (4, .int (x4 + 1))]) [2, 3, 4, 5, 0] rfl ?_
            exact ih x3 (x4 + 1) h F
          · replace h := hn c h
            refine v_iinc X (pc := 52) (v := (x3 + 1)) (L2 := [(3, .int (x3 + 1)), (5, .int q29), (0, .ref (a 0)), (1, .int x1), (2, .int x2), (4, .int x4)]) dX4_worseStiles_52 4 rfl (by first | rfl | decide) (by decide) rfl ?_
            refine v_iinc X (pc := 55) (v := (x4 + 1)) (L2 := [(4, .int (x4 + 1)), (3, .int (x3 + 1)), (5, .int q29), (0, .ref (a 0)), (1, .int x1), (2, .int x2)]) dX4_worseStiles_55 5 rfl (by first | rfl | decide) (by decide) rfl ?_
            refine v_goto X (pc := 58) (tgt := 14) dX4_worseStiles_58 (by decide) ?_
            refine v_sub (L2 := [(0, .ref (a 0)), (1, .int x1), (2, .int x2), (3, .int (x3 + 1)), (4, .int (x4 + 1))]) [3, 4, 5, 1, 0] rfl ?_
            exact ih (x3 + 1) (x4 + 1) h F
def f_X4_worseStiles (σ : Blk) (x1 : Int32) : Option (Int32) :=
  (f_X1_gapOf σ x1).bind fun q5 => f_X4_worseStiles_L14 σ x1 q5 FU 0 0
set_option maxHeartbeats 4000000 in
set_option maxRecDepth 100000 in
theorem c_X4_worseStiles (l : Launch) (g : Gl) (a : Nat → Nat) (σ : Blk) (x1 : Int32) {res : Int32} (h : f_X4_worseStiles σ x1 = some res) : Ok l g yX4_worseStiles cX4_worseStiles 6 (Option.some FieldType.int) 3 66 [.ref (a 0), .int x1] (wSt g a σ) (some (.int res)) (wSt g a σ) := by
  refine Ok.of RX4 (by decide) rfl (Nat.le_of_ble_eq_true rfl) (fun x hl hg X F => ?_)
  subst hg; subst hl
  rw [f_X4_worseStiles] at h
  show V x (wSt x.g a σ) [(0, .ref (a 0)), (1, .int x1)] [] 0
  refine v_aload_n X (pc := 0) dX4_worseStiles_0 rfl 0 rfl ?_
  refine v_get X (pc := 1) (v := .ref (a 11)) uw4 0 rfl rfl 6 (by decide) q_70 rfl rfl dX4_worseStiles_1 ?_
  refine v_iload_n X (pc := 4) dX4_worseStiles_4 rfl 1 rfl ?_
  obtain ⟨q5, e5, h⟩ := ob h
  refine v_callV X (pc := 5) (st1 := [.int q5]) (w' := (wSt x.g a σ)) [.int x1] [] (c_X1_gapOf x.l x.g a σ x1 e5) rfl rfl cw_X1_gapOf q_299 q_243 q_244 ⟨by decide, by decide⟩ 11 1 rfl rfl rfl (Fr.all rfl) rfl (Nat.le_of_ble_eq_true rfl) dX4_worseStiles_5 ?_
  refine v_istore_n X (pc := 8) (L2 := [(2, .int q5), (0, .ref (a 0)), (1, .int x1)]) dX4_worseStiles_8 rfl (by decide) rfl ?_
  refine v_iconst X (pc := 9) (v := 0) dX4_worseStiles_9 (by decide) ?_
  refine v_istore_n X (pc := 10) (L2 := [(3, .int 0), (2, .int q5), (0, .ref (a 0)), (1, .int x1)]) dX4_worseStiles_10 rfl (by decide) rfl ?_
  refine v_iconst X (pc := 11) (v := 0) dX4_worseStiles_11 (by decide) ?_
  refine v_istore X (pc := 12) (L2 := [(4, .int 0), (3, .int 0), (2, .int q5), (0, .ref (a 0)), (1, .int x1)]) dX4_worseStiles_12 (by decide) rfl ?_
  refine v_sub (L2 := [(0, .ref (a 0)), (1, .int x1), (2, .int q5), (3, .int 0), (4, .int 0)]) [3, 4, 2, 1, 0] rfl ?_
  exact v_X4_worseStiles_L14 X a σ x1 q5 FU 0 0 h F
theorem cw_X4_worseStiles : CwB yX4_worseStiles cX4_worseStiles 6 (Option.some FieldType.int) 1 := ⟨q_548, q_15, by decide, by decide, by decide +kernel⟩
