def f_X5_passError (hs : Int32) (n0 : Blk) (n1 : Blk) (n2 : Blk) (ζ : Row) (η : (Nat → Blk)) (δ : Row) (χ : Blk) (x1 : Int32) (x2 : Bool) (x3 : Int32) : Option (Int32) :=
  lt (f_X4_hasStile n0 x1) fun q5 => (if q5 = true then lt (f_X5_isManyPeople x3) fun q15 => (if q15 = true then (f_X4_whyNot n0 x1 x2 x3).bind fun q31 => (if q31 = 0 then some 0 else some ((-10) - q31)) else some (-100002)) else some (-100001))
set_option maxHeartbeats 4000000 in
set_option maxRecDepth 100000 in
theorem c_X5_passError (l : Launch) (g : Gl) (b : Nat → Nat → Nat) (hs : Int32) (n0 : Blk) (n1 : Blk) (n2 : Blk) (ζ : Row) (η : (Nat → Blk)) (δ : Row) (χ : Blk) (x1 : Int32) (x2 : Bool) (x3 : Int32) {res : Int32} (h : f_X5_passError hs n0 n1 n2 ζ η δ χ x1 x2 x3 = some res) : Ok l g yX5_passError cX5_passError 5 (Option.some FieldType.int) 4 88 [.ref (b 11 0), .int x1, .int (b2i x2), .int x3] (wHS g b hs n0 n1 n2 ζ η δ χ) (some (.int res)) (wHS g b hs n0 n1 n2 ζ η δ χ) := by
  refine Ok.of RX5 (by decide) rfl (Nat.le_of_ble_eq_true rfl) (fun x hl hg X F => ?_)
  subst hg; subst hl
  rw [f_X5_passError] at h
  show V x (wHS x.g b hs n0 n1 n2 ζ η δ χ) [(0, .ref (b 11 0)), (1, .int x1), (2, .int (b2i x2)), (3, .int x3)] [] 0
  refine v_aload_n X (pc := 0) dX5_passError_0 rfl 0 rfl ?_
  refine v_get X (pc := 1) (v := .ref ((b 0) 0)) uw5 0 rfl rfl 0 (by decide) q_161 rfl rfl dX5_passError_1 ?_
  refine v_iload_n X (pc := 4) dX5_passError_4 rfl 1 rfl ?_
  obtain ⟨q5, e5, h⟩ := lts h
  refine v_callV X (pc := 5) (st1 := [.int (b2i q5)]) (w' := (wHS x.g b hs n0 n1 n2 ζ η δ χ)) [.int x1] [] (c_X4_hasStile x.l x.g (b 0) n0 x1 e5) rfl rfl cw_X4_hasStile q_236 q_237 q_238 ⟨by decide, by decide⟩ 1 4 rfl rfl rfl (Fr.of [1, 2, 3, 4, 5, 6, 7, 8, 9, 10, 11, 12] rfl rfl rfl rfl rfl) rfl (Nat.le_of_ble_eq_true rfl) dX5_passError_5 ?_
  refine v_ifneB X (pc := 8) (tgt := 14) dX5_passError_8 (by decide) (fun c => ?_) (fun c => ?_)
  · replace h := hp c h
    refine v_iload_n X (pc := 14) dX5_passError_14 rfl 3 rfl ?_
    obtain ⟨q15, e15, h⟩ := lts h
    refine v_callS X (pc := 15) (st1 := [.int (b2i q15)]) (w' := (wHS x.g b hs n0 n1 n2 ζ η δ χ)) [.int x3] [] (c_X5_isManyPeople x.l x.g  x3 e15) rfl rfl cw_X5_isManyPeople q_494 q_495 ⟨by decide, by decide⟩ Fr.nil rfl (Nat.le_of_ble_eq_true rfl) dX5_passError_15 ?_
    refine v_ifneB X (pc := 18) (tgt := 24) dX5_passError_18 (by decide) (fun c => ?_) (fun c => ?_)
    · replace h := hp c h
      refine v_aload_n X (pc := 24) dX5_passError_24 rfl 0 rfl ?_
      refine v_get X (pc := 25) (v := .ref ((b 0) 0)) uw5 0 rfl rfl 0 (by decide) q_161 rfl rfl dX5_passError_25 ?_
      refine v_iload_n X (pc := 28) dX5_passError_28 rfl 1 rfl ?_
      refine v_iload_n X (pc := 29) dX5_passError_29 rfl 2 rfl ?_
      refine v_iload_n X (pc := 30) dX5_passError_30 rfl 3 rfl ?_
      obtain ⟨q31, e31, h⟩ := ob h
      refine v_callV X (pc := 31) (st1 := [.int q31]) (w' := (wHS x.g b hs n0 n1 n2 ζ η δ χ)) [.int x1, .int (b2i x2), .int x3] [] (c_X4_whyNot x.l x.g (b 0) n0 x1 x2 x3 e31) rfl rfl cw_X4_whyNot q_497 q_498 q_499 ⟨by decide, by decide⟩ 1 4 rfl rfl rfl (Fr.of [1, 2, 3, 4, 5, 6, 7, 8, 9, 10, 11, 12] rfl rfl rfl rfl rfl) rfl (Nat.le_of_ble_eq_true rfl) dX5_passError_31 ?_
      refine v_istore X (pc := 34) (L2 := [(4, .int q31), (0, .ref (b 11 0)), (1, .int x1), (2, .int (b2i x2)), (3, .int x3)]) dX5_passError_34 (by decide) rfl ?_
      refine v_iload X (pc := 36) dX5_passError_36 0 rfl ?_
      refine v_ifne X (pc := 38) (tgt := 45) dX5_passError_38 (by decide) (fun c => ?_) (fun c => ?_)
      · replace h := hn c h
        refine v_bipush X (pc := 45) (v := (-10)) dX5_passError_45 (by decide) ?_
        refine v_iload X (pc := 47) dX5_passError_47 0 rfl ?_
        refine v_isub X (pc := 49) dX5_passError_49 ?_
        replace h := oi h
        subst h
        exact v_iret X (pc := 50) F dX5_passError_50
      · replace h := hp c h
        refine v_iconst X (pc := 41) (v := 0) dX5_passError_41 (by decide) ?_
        refine v_goto X (pc := 42) (tgt := 50) dX5_passError_42 (by decide) ?_
        replace h := oi h
        subst h
        exact v_iret X (pc := 50) F dX5_passError_50
    · replace h := hn (nbt c) h
      refine v_ldc X (pc := 21) (v := (-100002)) q_257 dX5_passError_21 ?_
      replace h := oi h
      subst h
      exact v_iret X (pc := 23) F dX5_passError_23
  · replace h := hn (nbt c) h
    refine v_ldc X (pc := 11) (v := (-100001)) q_240 dX5_passError_11 ?_
    replace h := oi h
    subst h
    exact v_iret X (pc := 13) F dX5_passError_13
theorem cw_X5_passError : CwB yX5_passError cX5_passError 5 (Option.some FieldType.int) 3 := ⟨q_493, q_14, by decide, by decide, by decide +kernel⟩
def f_X5_repairError (hs : Int32) (n0 : Blk) (n1 : Blk) (n2 : Blk) (ζ : Row) (η : (Nat → Blk)) (δ : Row) (χ : Blk) (x1 : Int32) : Option (Int32) :=
  lt (f_X4_hasStile n0 x1) fun q5 => (if q5 = true then (f_X5_at 12 (n0 6) x1).bind fun q22 => (if q22 ≤ 0 then some 0 else some (-100004)) else some (-100001))
set_option maxHeartbeats 4000000 in
set_option maxRecDepth 100000 in
theorem c_X5_repairError (l : Launch) (g : Gl) (b : Nat → Nat → Nat) (hs : Int32) (n0 : Blk) (n1 : Blk) (n2 : Blk) (ζ : Row) (η : (Nat → Blk)) (δ : Row) (χ : Blk) (x1 : Int32) {res : Int32} (h : f_X5_repairError hs n0 n1 n2 ζ η δ χ x1 = some res) : Ok l g yX5_repairError cX5_repairError 2 (Option.some FieldType.int) 1 21 [.ref (b 11 0), .int x1] (wHS g b hs n0 n1 n2 ζ η δ χ) (some (.int res)) (wHS g b hs n0 n1 n2 ζ η δ χ) := by
  refine Ok.of RX5 (by decide) rfl (Nat.le_of_ble_eq_true rfl) (fun x hl hg X F => ?_)
  subst hg; subst hl
  rw [f_X5_repairError] at h
  show V x (wHS x.g b hs n0 n1 n2 ζ η δ χ) [(0, .ref (b 11 0)), (1, .int x1)] [] 0
  refine v_aload_n X (pc := 0) dX5_repairError_0 rfl 0 rfl ?_
  refine v_get X (pc := 1) (v := .ref ((b 0) 0)) uw5 0 rfl rfl 0 (by decide) q_161 rfl rfl dX5_repairError_1 ?_
  refine v_iload_n X (pc := 4) dX5_repairError_4 rfl 1 rfl ?_
  obtain ⟨q5, e5, h⟩ := lts h
  refine v_callV X (pc := 5) (st1 := [.int (b2i q5)]) (w' := (wHS x.g b hs n0 n1 n2 ζ η δ χ)) [.int x1] [] (c_X4_hasStile x.l x.g (b 0) n0 x1 e5) rfl rfl cw_X4_hasStile q_236 q_237 q_238 ⟨by decide, by decide⟩ 1 4 rfl rfl rfl (Fr.of [1, 2, 3, 4, 5, 6, 7, 8, 9, 10, 11, 12] rfl rfl rfl rfl rfl) rfl (Nat.le_of_ble_eq_true rfl) dX5_repairError_5 ?_
  refine v_ifneB X (pc := 8) (tgt := 14) dX5_repairError_8 (by decide) (fun c => ?_) (fun c => ?_)
  · replace h := hp c h
    refine v_aload_n X (pc := 14) dX5_repairError_14 rfl 0 rfl ?_
    refine v_get X (pc := 15) (v := .ref ((b 0) 0)) uw5 0 rfl rfl 0 (by decide) q_161 rfl rfl dX5_repairError_15 ?_
    refine v_getN X (pc := 18) (v := .ref ((b 0) 6)) uw4 1 rfl rfl 5 (by decide) k_9 rfl rfl dX5_repairError_18 ?_
    refine v_iload_n X (pc := 21) dX5_repairError_21 rfl 1 rfl ?_
    obtain ⟨q22, e22, h⟩ := ob h
    refine v_callS X (pc := 22) (st1 := [.int q22]) (w' := (wHS x.g b hs n0 n1 n2 ζ η δ χ)) [.ref ((b 0) 6), .int x1] [] (c_X5_at x.l x.g ((b 0) 6) 12 (n0 6) x1 e22) rfl rfl cw_X5_at q_241 q_221 ⟨by decide, by decide⟩ (Fr.of [7] rfl rfl rfl rfl rfl) rfl (Nat.le_of_ble_eq_true rfl) dX5_repairError_22 ?_
    refine v_ifle X (pc := 25) (tgt := 33) dX5_repairError_25 (by decide) (fun c => ?_) (fun c => ?_)
    · replace h := hp c h
      refine v_iconst X (pc := 33) (v := 0) dX5_repairError_33 (by decide) ?_
      replace h := oi h
      subst h
      exact v_iret X (pc := 34) F dX5_repairError_34
    · replace h := hn c h
      refine v_ldc X (pc := 28) (v := (-100004)) q_227 dX5_repairError_28 ?_
      refine v_goto X (pc := 30) (tgt := 34) dX5_repairError_30 (by decide) ?_
      replace h := oi h
      subst h
      exact v_iret X (pc := 34) F dX5_repairError_34
  · replace h := hn (nbt c) h
    refine v_ldc X (pc := 11) (v := (-100001)) q_240 dX5_repairError_11 ?_
    replace h := oi h
    subst h
    exact v_iret X (pc := 13) F dX5_repairError_13
theorem cw_X5_repairError : CwB yX5_repairError cX5_repairError 2 (Option.some FieldType.int) 1 := ⟨q_381, q_14, by decide, by decide, by decide +kernel⟩
def f_X5_stile (hs : Int32) (n0 : Blk) (n1 : Blk) (n2 : Blk) (ζ : Row) (η : (Nat → Blk)) (δ : Row) (χ : Blk) (x1 : Int32) (x2 : Int32) : Option (Int32 × Blk × Row × (Nat → Blk)) :=
  lt (f_X5_isHall x1) fun q1 => (if q1 = true then lt (f_X5_isHall x2) fun q8 => (if q8 = true then (if x1 = x2 then some ((-100002), n0, ζ, η) else (if (n0 0 0) < 12 then (f_X2_keep ζ η n0).bind fun q48 => (f_X4_putUp n0 x1 x2).bind fun q57 => some (q57.1, q57.2, q48.1, q48.2) else some ((-100003), n0, ζ, η))) else some ((-100001), n0, ζ, η)) else some ((-100001), n0, ζ, η))
set_option maxHeartbeats 4000000 in
set_option maxRecDepth 100000 in
theorem c_X5_stile (l : Launch) (g : Gl) (b : Nat → Nat → Nat) (hs : Int32) (n0 : Blk) (n1 : Blk) (n2 : Blk) (ζ : Row) (η : (Nat → Blk)) (δ : Row) (χ : Blk) (x1 : Int32) (x2 : Int32) {res : Int32 × Blk × Row × (Nat → Blk)} (h : f_X5_stile hs n0 n1 n2 ζ η δ χ x1 x2 = some res) : Ok l g yX5_stile cX5_stile 3 (Option.some FieldType.int) 5 112 [.ref (b 11 0), .int x1, .int x2] (wHS g b hs n0 n1 n2 ζ η δ χ) (some (.int res.1)) (wHS g b hs res.2.1 n1 n2 res.2.2.1 res.2.2.2 δ χ) := by
  refine Ok.of RX5 (by decide) rfl (Nat.le_of_ble_eq_true rfl) (fun x hl hg X F => ?_)
  subst hg; subst hl
  rw [f_X5_stile] at h
  show V x (wHS x.g b hs n0 n1 n2 ζ η δ χ) [(0, .ref (b 11 0)), (1, .int x1), (2, .int x2)] [] 0
  refine v_iload_n X (pc := 0) dX5_stile_0 rfl 1 rfl ?_
  obtain ⟨q1, e1, h⟩ := lts h
  refine v_callS X (pc := 1) (st1 := [.int (b2i q1)]) (w' := (wHS x.g b hs n0 n1 n2 ζ η δ χ)) [.int x1] [] (c_X5_isHall x.l x.g  x1 e1) rfl rfl cw_X5_isHall q_320 q_321 ⟨by decide, by decide⟩ Fr.nil rfl (Nat.le_of_ble_eq_true rfl) dX5_stile_1 ?_
  refine v_ifeqB X (pc := 4) (tgt := 14) dX5_stile_4 (by decide) (fun c => ?_) (fun c => ?_)
  · replace h := hn (nbt c) h
    refine v_ldc X (pc := 14) (v := (-100001)) q_240 dX5_stile_14 ?_
    replace h := oi h
    subst h
    exact v_iret X (pc := 16) F dX5_stile_16
  · replace h := hp c h
    refine v_iload_n X (pc := 7) dX5_stile_7 rfl 2 rfl ?_
    obtain ⟨q8, e8, h⟩ := lts h
    refine v_callS X (pc := 8) (st1 := [.int (b2i q8)]) (w' := (wHS x.g b hs n0 n1 n2 ζ η δ χ)) [.int x2] [] (c_X5_isHall x.l x.g  x2 e8) rfl rfl cw_X5_isHall q_320 q_321 ⟨by decide, by decide⟩ Fr.nil rfl (Nat.le_of_ble_eq_true rfl) dX5_stile_8 ?_
    refine v_ifneB X (pc := 11) (tgt := 17) dX5_stile_11 (by decide) (fun c => ?_) (fun c => ?_)
    · replace h := hp c h
      refine v_iload_n X (pc := 17) dX5_stile_17 rfl 1 rfl ?_
      refine v_iload_n X (pc := 18) dX5_stile_18 rfl 2 rfl ?_
      refine v_icmpne X (pc := 19) (tgt := 25) dX5_stile_19 (by decide) (fun c => ?_) (fun c => ?_)
      · replace h := hn c h
        refine v_aload_n X (pc := 25) dX5_stile_25 rfl 0 rfl ?_
        refine v_get X (pc := 26) (v := .ref ((b 0) 0)) uw5 0 rfl rfl 0 (by decide) q_161 rfl rfl dX5_stile_26 ?_
        refine v_getN X (pc := 29) (v := .int (n0 0 0)) uw4 1 rfl rfl 7 (by decide) k_11 rfl rfl dX5_stile_29 ?_
        refine v_bipush X (pc := 32) (v := 12) dX5_stile_32 (by decide) ?_
        refine v_icmplt X (pc := 34) (tgt := 40) dX5_stile_34 (by decide) (fun c => ?_) (fun c => ?_)
        · replace h := hp c h
          refine v_aload_n X (pc := 40) dX5_stile_40 rfl 0 rfl ?_
          refine v_get X (pc := 41) (v := .ref ((b 8) 0)) uw5 0 rfl rfl 3 (by decide) q_164 rfl rfl dX5_stile_41 ?_
          refine v_aload_n X (pc := 44) dX5_stile_44 rfl 0 rfl ?_
          refine v_get X (pc := 45) (v := .ref ((b 0) 0)) uw5 0 rfl rfl 0 (by decide) q_161 rfl rfl dX5_stile_45 ?_
          obtain ⟨q48, e48, h⟩ := ob h
          refine v_callV X (pc := 48) (st1 := []) (w' := (wHS x.g b hs n0 n1 n2 q48.1 q48.2 δ χ)) [.ref ((b 0) 0)] [] (c_X2_keep x.l x.g (b 8) (fun j => b (j + 3)) (b 0) ζ η n0 e48) rfl rfl cw_X2_keep q_228 q_229 q_230 ⟨by decide, by decide⟩ 37 2 rfl rfl rfl (Fr.of [37, 38, 39, 40, 41, 42, 43, 44, 45, 46, 47, 48, 49, 50, 51, 52, 53, 54, 55, 56, 57, 58, 59, 60, 61, 62, 63, 64, 65, 66, 67, 68, 69, 70, 71, 72, 73, 74, 75, 76, 77, 78, 79, 80, 81, 82, 83, 84, 85, 86, 87, 88, 89, 90, 91, 92, 93, 94, 95, 96, 97, 98, 1, 2, 3, 4, 5, 6, 7, 8, 9, 10, 11, 12] rfl rfl rfl rfl rfl) rfl (Nat.le_of_ble_eq_true rfl) dX5_stile_48 ?_
          refine v_aload_n X (pc := 51) dX5_stile_51 rfl 0 rfl ?_
          refine v_get X (pc := 52) (v := .ref ((b 0) 0)) uw5 0 rfl rfl 0 (by decide) q_161 rfl rfl dX5_stile_52 ?_
          refine v_iload_n X (pc := 55) dX5_stile_55 rfl 1 rfl ?_
          refine v_iload_n X (pc := 56) dX5_stile_56 rfl 2 rfl ?_
          obtain ⟨q57, e57, h⟩ := ob h
          refine v_callV X (pc := 57) (st1 := [.int q57.1]) (w' := (wHS x.g b hs q57.2 n1 n2 q48.1 q48.2 δ χ)) [.int x1, .int x2] [] (c_X4_putUp x.l x.g (b 0) n0 x1 x2 e57) rfl rfl cw_X4_putUp q_324 q_325 q_326 ⟨by decide, by decide⟩ 1 4 rfl rfl rfl (Fr.of [1, 2, 3, 4, 5, 6, 7, 8, 9, 10, 11, 12] rfl rfl rfl rfl rfl) rfl (Nat.le_of_ble_eq_true rfl) dX5_stile_57 ?_
          replace h := oi h
          subst h
          exact v_iret X (pc := 60) F dX5_stile_60
        · replace h := hn c h
          refine v_ldc X (pc := 37) (v := (-100003)) q_323 dX5_stile_37 ?_
          replace h := oi h
          subst h
          exact v_iret X (pc := 39) F dX5_stile_39
      · replace h := hp c h
        refine v_ldc X (pc := 22) (v := (-100002)) q_257 dX5_stile_22 ?_
        replace h := oi h
        subst h
        exact v_iret X (pc := 24) F dX5_stile_24
    · replace h := hn (nbt c) h
      refine v_ldc X (pc := 14) (v := (-100001)) q_240 dX5_stile_14 ?_
      replace h := oi h
      subst h
      exact v_iret X (pc := 16) F dX5_stile_16
theorem cw_X5_stile : CwB yX5_stile cX5_stile 3 (Option.some FieldType.int) 2 := ⟨q_319, q_14, by decide, by decide, by decide +kernel⟩
def f_X5_open (hs : Int32) (n0 : Blk) (n1 : Blk) (n2 : Blk) (ζ : Row) (η : (Nat → Blk)) (δ : Row) (χ : Blk) (x1 : Int32) (x2 : Int32) : Option (Int32 × Blk × Row × (Nat → Blk)) :=
  lt (f_X4_hasStile n0 x1) fun q5 => (if q5 = true then (if x2 < 0 then some ((-100002), n0, ζ, η) else (if x2 ≤ 3 then (f_X2_keep ζ η n0).bind fun q34 => (f_X5_at 12 (n0 5) x1).bind fun q45 => (f_X5_put 12 (n0 5) x1 x2).bind fun q58 => lt (upR n0 5 q58) fun m58 => some (q45, m58, q34.1, q34.2) else some ((-100002), n0, ζ, η))) else some ((-100001), n0, ζ, η))
set_option maxHeartbeats 4000000 in
set_option maxRecDepth 100000 in
theorem c_X5_open (l : Launch) (g : Gl) (b : Nat → Nat → Nat) (hs : Int32) (n0 : Blk) (n1 : Blk) (n2 : Blk) (ζ : Row) (η : (Nat → Blk)) (δ : Row) (χ : Blk) (x1 : Int32) (x2 : Int32) {res : Int32 × Blk × Row × (Nat → Blk)} (h : f_X5_open hs n0 n1 n2 ζ η δ χ x1 x2 = some res) : Ok l g yX5_open cX5_open 4 (Option.some FieldType.int) 5 112 [.ref (b 11 0), .int x1, .int x2] (wHS g b hs n0 n1 n2 ζ η δ χ) (some (.int res.1)) (wHS g b hs res.2.1 n1 n2 res.2.2.1 res.2.2.2 δ χ) := by
  refine Ok.of RX5 (by decide) rfl (Nat.le_of_ble_eq_true rfl) (fun x hl hg X F => ?_)
  subst hg; subst hl
  rw [f_X5_open] at h
  show V x (wHS x.g b hs n0 n1 n2 ζ η δ χ) [(0, .ref (b 11 0)), (1, .int x1), (2, .int x2)] [] 0
  refine v_aload_n X (pc := 0) dX5_open_0 rfl 0 rfl ?_
  refine v_get X (pc := 1) (v := .ref ((b 0) 0)) uw5 0 rfl rfl 0 (by decide) q_161 rfl rfl dX5_open_1 ?_
  refine v_iload_n X (pc := 4) dX5_open_4 rfl 1 rfl ?_
  obtain ⟨q5, e5, h⟩ := lts h
  refine v_callV X (pc := 5) (st1 := [.int (b2i q5)]) (w' := (wHS x.g b hs n0 n1 n2 ζ η δ χ)) [.int x1] [] (c_X4_hasStile x.l x.g (b 0) n0 x1 e5) rfl rfl cw_X4_hasStile q_236 q_237 q_238 ⟨by decide, by decide⟩ 1 4 rfl rfl rfl (Fr.of [1, 2, 3, 4, 5, 6, 7, 8, 9, 10, 11, 12] rfl rfl rfl rfl rfl) rfl (Nat.le_of_ble_eq_true rfl) dX5_open_5 ?_
  refine v_ifneB X (pc := 8) (tgt := 14) dX5_open_8 (by decide) (fun c => ?_) (fun c => ?_)
  · replace h := hp c h
    refine v_iload_n X (pc := 14) dX5_open_14 rfl 2 rfl ?_
    refine v_iflt X (pc := 15) (tgt := 23) dX5_open_15 (by decide) (fun c => ?_) (fun c => ?_)
    · replace h := hp c h
      refine v_ldc X (pc := 23) (v := (-100002)) q_257 dX5_open_23 ?_
      replace h := oi h
      subst h
      exact v_iret X (pc := 25) F dX5_open_25
    · replace h := hn c h
      refine v_iload_n X (pc := 18) dX5_open_18 rfl 2 rfl ?_
      refine v_iconst X (pc := 19) (v := 3) dX5_open_19 (by decide) ?_
      refine v_icmple X (pc := 20) (tgt := 26) dX5_open_20 (by decide) (fun c => ?_) (fun c => ?_)
      · replace h := hp c h
        refine v_aload_n X (pc := 26) dX5_open_26 rfl 0 rfl ?_
        refine v_get X (pc := 27) (v := .ref ((b 8) 0)) uw5 0 rfl rfl 3 (by decide) q_164 rfl rfl dX5_open_27 ?_
        refine v_aload_n X (pc := 30) dX5_open_30 rfl 0 rfl ?_
        refine v_get X (pc := 31) (v := .ref ((b 0) 0)) uw5 0 rfl rfl 0 (by decide) q_161 rfl rfl dX5_open_31 ?_
        obtain ⟨q34, e34, h⟩ := ob h
        refine v_callV X (pc := 34) (st1 := []) (w' := (wHS x.g b hs n0 n1 n2 q34.1 q34.2 δ χ)) [.ref ((b 0) 0)] [] (c_X2_keep x.l x.g (b 8) (fun j => b (j + 3)) (b 0) ζ η n0 e34) rfl rfl cw_X2_keep q_228 q_229 q_230 ⟨by decide, by decide⟩ 37 2 rfl rfl rfl (Fr.of [37, 38, 39, 40, 41, 42, 43, 44, 45, 46, 47, 48, 49, 50, 51, 52, 53, 54, 55, 56, 57, 58, 59, 60, 61, 62, 63, 64, 65, 66, 67, 68, 69, 70, 71, 72, 73, 74, 75, 76, 77, 78, 79, 80, 81, 82, 83, 84, 85, 86, 87, 88, 89, 90, 91, 92, 93, 94, 95, 96, 97, 98, 1, 2, 3, 4, 5, 6, 7, 8, 9, 10, 11, 12] rfl rfl rfl rfl rfl) rfl (Nat.le_of_ble_eq_true rfl) dX5_open_34 ?_
        refine v_aload_n X (pc := 37) dX5_open_37 rfl 0 rfl ?_
        refine v_get X (pc := 38) (v := .ref ((b 0) 0)) uw5 0 rfl rfl 0 (by decide) q_161 rfl rfl dX5_open_38 ?_
        refine v_getN X (pc := 41) (v := .ref ((b 0) 5)) uw4 1 rfl rfl 4 (by decide) k_8 rfl rfl dX5_open_41 ?_
        refine v_iload_n X (pc := 44) dX5_open_44 rfl 1 rfl ?_
        obtain ⟨q45, e45, h⟩ := ob h
        refine v_callS X (pc := 45) (st1 := [.int q45]) (w' := (wHS x.g b hs n0 n1 n2 q34.1 q34.2 δ χ)) [.ref ((b 0) 5), .int x1] [] (c_X5_at x.l x.g ((b 0) 5) 12 (n0 5) x1 e45) rfl rfl cw_X5_at q_241 q_221 ⟨by decide, by decide⟩ (Fr.of [6] rfl rfl rfl rfl rfl) rfl (Nat.le_of_ble_eq_true rfl) dX5_open_45 ?_
        refine v_istore_n X (pc := 48) (L2 := [(3, .int q45), (0, .ref (b 11 0)), (1, .int x1), (2, .int x2)]) dX5_open_48 rfl (by decide) rfl ?_
        refine v_aload_n X (pc := 49) dX5_open_49 rfl 1 rfl ?_
        refine v_get X (pc := 50) (v := .ref ((b 0) 0)) uw5 0 rfl rfl 0 (by decide) q_161 rfl rfl dX5_open_50 ?_
        refine v_getN X (pc := 53) (v := .ref ((b 0) 5)) uw4 1 rfl rfl 4 (by decide) k_8 rfl rfl dX5_open_53 ?_
        refine v_iload_n X (pc := 56) dX5_open_56 rfl 2 rfl ?_
        refine v_iload_n X (pc := 57) dX5_open_57 rfl 3 rfl ?_
        obtain ⟨q58, e58, h⟩ := ob h
        obtain ⟨m58, em58, h⟩ := lts h
        refine v_callS X (pc := 58) (st1 := []) (w' := (wHS x.g b hs m58 n1 n2 q34.1 q34.2 δ χ)) [.ref ((b 0) 5), .int x1, .int x2] [] (c_X5_put x.l x.g ((b 0) 5) 12 (n0 5) x1 x2 e58) rfl rfl cw_X5_put q_335 q_329 ⟨by decide, by decide⟩ (by rw [← em58]; exact (Fr.of [6] rfl rfl rfl rfl rfl)) rfl (Nat.le_of_ble_eq_true rfl) dX5_open_58 ?_
        refine v_iload_n X (pc := 61) dX5_open_61 rfl 0 rfl ?_
        replace h := oi h
        subst h
        exact v_iret X (pc := 62) F dX5_open_62
      · replace h := hn c h
        refine v_ldc X (pc := 23) (v := (-100002)) q_257 dX5_open_23 ?_
        replace h := oi h
        subst h
        exact v_iret X (pc := 25) F dX5_open_25
  · replace h := hn (nbt c) h
    refine v_ldc X (pc := 11) (v := (-100001)) q_240 dX5_open_11 ?_
    replace h := oi h
    subst h
    exact v_iret X (pc := 13) F dX5_open_13
theorem cw_X5_open : CwB yX5_open cX5_open 4 (Option.some FieldType.int) 2 := ⟨q_334, q_14, by decide, by decide, by decide +kernel⟩
def f_X5_room (hs : Int32) (n0 : Blk) (n1 : Blk) (n2 : Blk) (ζ : Row) (η : (Nat → Blk)) (δ : Row) (χ : Blk) (x1 : Int32) (x2 : Int32) : Option (Int32 × Blk × Row × (Nat → Blk)) :=
  lt (f_X5_isHallWithRoom x1) fun q1 => (if q1 = true then (if x2 < 1 then some ((-100002), n0, ζ, η) else (if x2 ≤ 500 then (f_X5_at 6 (n0 2) x1).bind fun q33 => (if q33 ≤ x2 then (f_X2_keep ζ η n0).bind fun q51 => (f_X5_at 6 (n0 1) x1).bind fun q62 => (f_X5_put 6 (n0 1) x1 x2).bind fun q75 => lt (upR n0 1 q75) fun m75 => some (q62, m75, q51.1, q51.2) else some ((-100004), n0, ζ, η)) else some ((-100002), n0, ζ, η))) else some ((-100001), n0, ζ, η))
set_option maxHeartbeats 4000000 in
set_option maxRecDepth 100000 in
theorem c_X5_room (l : Launch) (g : Gl) (b : Nat → Nat → Nat) (hs : Int32) (n0 : Blk) (n1 : Blk) (n2 : Blk) (ζ : Row) (η : (Nat → Blk)) (δ : Row) (χ : Blk) (x1 : Int32) (x2 : Int32) {res : Int32 × Blk × Row × (Nat → Blk)} (h : f_X5_room hs n0 n1 n2 ζ η δ χ x1 x2 = some res) : Ok l g yX5_room cX5_room 4 (Option.some FieldType.int) 5 112 [.ref (b 11 0), .int x1, .int x2] (wHS g b hs n0 n1 n2 ζ η δ χ) (some (.int res.1)) (wHS g b hs res.2.1 n1 n2 res.2.2.1 res.2.2.2 δ χ) := by
  refine Ok.of RX5 (by decide) rfl (Nat.le_of_ble_eq_true rfl) (fun x hl hg X F => ?_)
  subst hg; subst hl
  rw [f_X5_room] at h
  show V x (wHS x.g b hs n0 n1 n2 ζ η δ χ) [(0, .ref (b 11 0)), (1, .int x1), (2, .int x2)] [] 0
  refine v_iload_n X (pc := 0) dX5_room_0 rfl 1 rfl ?_
  obtain ⟨q1, e1, h⟩ := lts h
  refine v_callS X (pc := 1) (st1 := [.int (b2i q1)]) (w' := (wHS x.g b hs n0 n1 n2 ζ η δ χ)) [.int x1] [] (c_X5_isHallWithRoom x.l x.g  x1 e1) rfl rfl cw_X5_isHallWithRoom q_340 q_341 ⟨by decide, by decide⟩ Fr.nil rfl (Nat.le_of_ble_eq_true rfl) dX5_room_1 ?_
  refine v_ifneB X (pc := 4) (tgt := 10) dX5_room_4 (by decide) (fun c => ?_) (fun c => ?_)
  · replace h := hp c h
    refine v_iload_n X (pc := 10) dX5_room_10 rfl 2 rfl ?_
    refine v_iconst X (pc := 11) (v := 1) dX5_room_11 (by decide) ?_
    refine v_icmplt X (pc := 12) (tgt := 22) dX5_room_12 (by decide) (fun c => ?_) (fun c => ?_)
    · replace h := hp c h
      refine v_ldc X (pc := 22) (v := (-100002)) q_257 dX5_room_22 ?_
      replace h := oi h
      subst h
      exact v_iret X (pc := 24) F dX5_room_24
    · replace h := hn c h
      refine v_iload_n X (pc := 15) dX5_room_15 rfl 2 rfl ?_
      refine v_sipush X (pc := 16) (v := 500) dX5_room_16 (by decide) ?_
      refine v_icmple X (pc := 19) (tgt := 25) dX5_room_19 (by decide) (fun c => ?_) (fun c => ?_)
      · replace h := hp c h
        refine v_aload_n X (pc := 25) dX5_room_25 rfl 0 rfl ?_
        refine v_get X (pc := 26) (v := .ref ((b 0) 0)) uw5 0 rfl rfl 0 (by decide) q_161 rfl rfl dX5_room_26 ?_
        refine v_getN X (pc := 29) (v := .ref ((b 0) 2)) uw4 1 rfl rfl 1 (by decide) k_5 rfl rfl dX5_room_29 ?_
        refine v_iload_n X (pc := 32) dX5_room_32 rfl 1 rfl ?_
        obtain ⟨q33, e33, h⟩ := ob h
        refine v_callS X (pc := 33) (st1 := [.int q33]) (w' := (wHS x.g b hs n0 n1 n2 ζ η δ χ)) [.ref ((b 0) 2), .int x1] [] (c_X5_at x.l x.g ((b 0) 2) 6 (n0 2) x1 e33) rfl rfl cw_X5_at q_241 q_221 ⟨by decide, by decide⟩ (Fr.of [3] rfl rfl rfl rfl rfl) rfl (Nat.le_of_ble_eq_true rfl) dX5_room_33 ?_
        refine v_iload_n X (pc := 36) dX5_room_36 rfl 2 rfl ?_
        refine v_icmple X (pc := 37) (tgt := 43) dX5_room_37 (by decide) (fun c => ?_) (fun c => ?_)
        · replace h := hp c h
          refine v_aload_n X (pc := 43) dX5_room_43 rfl 0 rfl ?_
          refine v_get X (pc := 44) (v := .ref ((b 8) 0)) uw5 0 rfl rfl 3 (by decide) q_164 rfl rfl dX5_room_44 ?_
          refine v_aload_n X (pc := 47) dX5_room_47 rfl 0 rfl ?_
          refine v_get X (pc := 48) (v := .ref ((b 0) 0)) uw5 0 rfl rfl 0 (by decide) q_161 rfl rfl dX5_room_48 ?_
          obtain ⟨q51, e51, h⟩ := ob h
          refine v_callV X (pc := 51) (st1 := []) (w' := (wHS x.g b hs n0 n1 n2 q51.1 q51.2 δ χ)) [.ref ((b 0) 0)] [] (c_X2_keep x.l x.g (b 8) (fun j => b (j + 3)) (b 0) ζ η n0 e51) rfl rfl cw_X2_keep q_228 q_229 q_230 ⟨by decide, by decide⟩ 37 2 rfl rfl rfl (Fr.of [37, 38, 39, 40, 41, 42, 43, 44, 45, 46, 47, 48, 49, 50, 51, 52, 53, 54, 55, 56, 57, 58, 59, 60, 61, 62, 63, 64, 65, 66, 67, 68, 69, 70, 71, 72, 73, 74, 75, 76, 77, 78, 79, 80, 81, 82, 83, 84, 85, 86, 87, 88, 89, 90, 91, 92, 93, 94, 95, 96, 97, 98, 1, 2, 3, 4, 5, 6, 7, 8, 9, 10, 11, 12] rfl rfl rfl rfl rfl) rfl (Nat.le_of_ble_eq_true rfl) dX5_room_51 ?_
          refine v_aload_n X (pc := 54) dX5_room_54 rfl 0 rfl ?_
          refine v_get X (pc := 55) (v := .ref ((b 0) 0)) uw5 0 rfl rfl 0 (by decide) q_161 rfl rfl dX5_room_55 ?_
          refine v_getN X (pc := 58) (v := .ref ((b 0) 1)) uw4 1 rfl rfl 0 (by decide) k_4 rfl rfl dX5_room_58 ?_
          refine v_iload_n X (pc := 61) dX5_room_61 rfl 1 rfl ?_
          obtain ⟨q62, e62, h⟩ := ob h
          refine v_callS X (pc := 62) (st1 := [.int q62]) (w' := (wHS x.g b hs n0 n1 n2 q51.1 q51.2 δ χ)) [.ref ((b 0) 1), .int x1] [] (c_X5_at x.l x.g ((b 0) 1) 6 (n0 1) x1 e62) rfl rfl cw_X5_at q_241 q_221 ⟨by decide, by decide⟩ (Fr.of [2] rfl rfl rfl rfl rfl) rfl (Nat.le_of_ble_eq_true rfl) dX5_room_62 ?_
          refine v_istore_n X (pc := 65) (L2 := [(3, .int q62), (0, .ref (b 11 0)), (1, .int x1), (2, .int x2)]) dX5_room_65 rfl (by decide) rfl ?_
          refine v_aload_n X (pc := 66) dX5_room_66 rfl 1 rfl ?_
          refine v_get X (pc := 67) (v := .ref ((b 0) 0)) uw5 0 rfl rfl 0 (by decide) q_161 rfl rfl dX5_room_67 ?_
          refine v_getN X (pc := 70) (v := .ref ((b 0) 1)) uw4 1 rfl rfl 0 (by decide) k_4 rfl rfl dX5_room_70 ?_
          refine v_iload_n X (pc := 73) dX5_room_73 rfl 2 rfl ?_
          refine v_iload_n X (pc := 74) dX5_room_74 rfl 3 rfl ?_
          obtain ⟨q75, e75, h⟩ := ob h
          obtain ⟨m75, em75, h⟩ := lts h
          refine v_callS X (pc := 75) (st1 := []) (w' := (wHS x.g b hs m75 n1 n2 q51.1 q51.2 δ χ)) [.ref ((b 0) 1), .int x1, .int x2] [] (c_X5_put x.l x.g ((b 0) 1) 6 (n0 1) x1 x2 e75) rfl rfl cw_X5_put q_335 q_329 ⟨by decide, by decide⟩ (by rw [← em75]; exact (Fr.of [2] rfl rfl rfl rfl rfl)) rfl (Nat.le_of_ble_eq_true rfl) dX5_room_75 ?_
          refine v_iload_n X (pc := 78) dX5_room_78 rfl 0 rfl ?_
          replace h := oi h
          subst h
          exact v_iret X (pc := 79) F dX5_room_79
        · replace h := hn c h
          refine v_ldc X (pc := 40) (v := (-100004)) q_227 dX5_room_40 ?_
          replace h := oi h
          subst h
          exact v_iret X (pc := 42) F dX5_room_42
      · replace h := hn c h
        refine v_ldc X (pc := 22) (v := (-100002)) q_257 dX5_room_22 ?_
        replace h := oi h
        subst h
        exact v_iret X (pc := 24) F dX5_room_24
  · replace h := hn (nbt c) h
    refine v_ldc X (pc := 7) (v := (-100001)) q_240 dX5_room_7 ?_
    replace h := oi h
    subst h
    exact v_iret X (pc := 9) F dX5_room_9
theorem cw_X5_room : CwB yX5_room cX5_room 4 (Option.some FieldType.int) 2 := ⟨q_339, q_14, by decide, by decide, by decide +kernel⟩
def f_X5_slip (hs : Int32) (n0 : Blk) (n1 : Blk) (n2 : Blk) (ζ : Row) (η : (Nat → Blk)) (δ : Row) (χ : Blk) (x1 : Int32) (x2 : Int32) (x3 : Int32) : Option (Int32 × Blk × Row × (Nat → Blk)) :=
  lt (f_X4_hasStile n0 x1) fun q5 => (if q5 = true then lt (f_X5_isCounter x2) fun q15 => (if q15 = true then lt (f_X5_isSlip x3) fun q22 => (if q22 = true then (f_X2_keep ζ η n0).bind fun q39 => lt (f_X5_counterIndex x1 x2) fun q44 => (f_X5_at 48 (n0 8) q44).bind fun q61 => (f_X1_beginAnew n0 q44 x3).bind fun q76 => some (q61, q76, q39.1, q39.2) else some ((-100002), n0, ζ, η)) else some ((-100002), n0, ζ, η)) else some ((-100001), n0, ζ, η))
set_option maxHeartbeats 4000000 in
set_option maxRecDepth 100000 in
theorem c_X5_slip (l : Launch) (g : Gl) (b : Nat → Nat → Nat) (hs : Int32) (n0 : Blk) (n1 : Blk) (n2 : Blk) (ζ : Row) (η : (Nat → Blk)) (δ : Row) (χ : Blk) (x1 : Int32) (x2 : Int32) (x3 : Int32) {res : Int32 × Blk × Row × (Nat → Blk)} (h : f_X5_slip hs n0 n1 n2 ζ η δ χ x1 x2 x3 = some res) : Ok l g yX5_slip cX5_slip 6 (Option.some FieldType.int) 5 112 [.ref (b 11 0), .int x1, .int x2, .int x3] (wHS g b hs n0 n1 n2 ζ η δ χ) (some (.int res.1)) (wHS g b hs res.2.1 n1 n2 res.2.2.1 res.2.2.2 δ χ) := by
  refine Ok.of RX5 (by decide) rfl (Nat.le_of_ble_eq_true rfl) (fun x hl hg X F => ?_)
  subst hg; subst hl
  rw [f_X5_slip] at h
  show V x (wHS x.g b hs n0 n1 n2 ζ η δ χ) [(0, .ref (b 11 0)), (1, .int x1), (2, .int x2), (3, .int x3)] [] 0
  refine v_aload_n X (pc := 0) dX5_slip_0 rfl 0 rfl ?_
  refine v_get X (pc := 1) (v := .ref ((b 0) 0)) uw5 0 rfl rfl 0 (by decide) q_161 rfl rfl dX5_slip_1 ?_
  refine v_iload_n X (pc := 4) dX5_slip_4 rfl 1 rfl ?_
  obtain ⟨q5, e5, h⟩ := lts h
  refine v_callV X (pc := 5) (st1 := [.int (b2i q5)]) (w' := (wHS x.g b hs n0 n1 n2 ζ η δ χ)) [.int x1] [] (c_X4_hasStile x.l x.g (b 0) n0 x1 e5) rfl rfl cw_X4_hasStile q_236 q_237 q_238 ⟨by decide, by decide⟩ 1 4 rfl rfl rfl (Fr.of [1, 2, 3, 4, 5, 6, 7, 8, 9, 10, 11, 12] rfl rfl rfl rfl rfl) rfl (Nat.le_of_ble_eq_true rfl) dX5_slip_5 ?_
  refine v_ifneB X (pc := 8) (tgt := 14) dX5_slip_8 (by decide) (fun c => ?_) (fun c => ?_)
  · replace h := hp c h
    refine v_iload_n X (pc := 14) dX5_slip_14 rfl 2 rfl ?_
    obtain ⟨q15, e15, h⟩ := lts h
    refine v_callS X (pc := 15) (st1 := [.int (b2i q15)]) (w' := (wHS x.g b hs n0 n1 n2 ζ η δ χ)) [.int x2] [] (c_X5_isCounter x.l x.g  x2 e15) rfl rfl cw_X5_isCounter q_347 q_348 ⟨by decide, by decide⟩ Fr.nil rfl (Nat.le_of_ble_eq_true rfl) dX5_slip_15 ?_
    refine v_ifeqB X (pc := 18) (tgt := 28) dX5_slip_18 (by decide) (fun c => ?_) (fun c => ?_)
    · replace h := hn (nbt c) h
      refine v_ldc X (pc := 28) (v := (-100002)) q_257 dX5_slip_28 ?_
      replace h := oi h
      subst h
      exact v_iret X (pc := 30) F dX5_slip_30
    · replace h := hp c h
      refine v_iload_n X (pc := 21) dX5_slip_21 rfl 3 rfl ?_
      obtain ⟨q22, e22, h⟩ := lts h
      refine v_callS X (pc := 22) (st1 := [.int (b2i q22)]) (w' := (wHS x.g b hs n0 n1 n2 ζ η δ χ)) [.int x3] [] (c_X5_isSlip x.l x.g  x3 e22) rfl rfl cw_X5_isSlip q_350 q_351 ⟨by decide, by decide⟩ Fr.nil rfl (Nat.le_of_ble_eq_true rfl) dX5_slip_22 ?_
      refine v_ifneB X (pc := 25) (tgt := 31) dX5_slip_25 (by decide) (fun c => ?_) (fun c => ?_)
      · replace h := hp c h
        refine v_aload_n X (pc := 31) dX5_slip_31 rfl 0 rfl ?_
        refine v_get X (pc := 32) (v := .ref ((b 8) 0)) uw5 0 rfl rfl 3 (by decide) q_164 rfl rfl dX5_slip_32 ?_
        refine v_aload_n X (pc := 35) dX5_slip_35 rfl 0 rfl ?_
        refine v_get X (pc := 36) (v := .ref ((b 0) 0)) uw5 0 rfl rfl 0 (by decide) q_161 rfl rfl dX5_slip_36 ?_
        obtain ⟨q39, e39, h⟩ := ob h
        refine v_callV X (pc := 39) (st1 := []) (w' := (wHS x.g b hs n0 n1 n2 q39.1 q39.2 δ χ)) [.ref ((b 0) 0)] [] (c_X2_keep x.l x.g (b 8) (fun j => b (j + 3)) (b 0) ζ η n0 e39) rfl rfl cw_X2_keep q_228 q_229 q_230 ⟨by decide, by decide⟩ 37 2 rfl rfl rfl (Fr.of [37, 38, 39, 40, 41, 42, 43, 44, 45, 46, 47, 48, 49, 50, 51, 52, 53, 54, 55, 56, 57, 58, 59, 60, 61, 62, 63, 64, 65, 66, 67, 68, 69, 70, 71, 72, 73, 74, 75, 76, 77, 78, 79, 80, 81, 82, 83, 84, 85, 86, 87, 88, 89, 90, 91, 92, 93, 94, 95, 96, 97, 98, 1, 2, 3, 4, 5, 6, 7, 8, 9, 10, 11, 12] rfl rfl rfl rfl rfl) rfl (Nat.le_of_ble_eq_true rfl) dX5_slip_39 ?_
        refine v_iload_n X (pc := 42) dX5_slip_42 rfl 1 rfl ?_
        refine v_iload_n X (pc := 43) dX5_slip_43 rfl 2 rfl ?_
        obtain ⟨q44, e44, h⟩ := lts h
        refine v_callS X (pc := 44) (st1 := [.int q44]) (w' := (wHS x.g b hs n0 n1 n2 q39.1 q39.2 δ χ)) [.int x1, .int x2] [] (c_X5_counterIndex x.l x.g  x1 x2 e44) rfl rfl cw_X5_counterIndex q_353 q_251 ⟨by decide, by decide⟩ Fr.nil rfl (Nat.le_of_ble_eq_true rfl) dX5_slip_44 ?_
        refine v_istore X (pc := 47) (L2 := [(4, .int q44), (0, .ref (b 11 0)), (1, .int x1), (2, .int x2), (3, .int x3)]) dX5_slip_47 (by decide) rfl ?_
        refine v_aload_n X (pc := 49) dX5_slip_49 rfl 1 rfl ?_
        refine v_get X (pc := 50) (v := .ref ((b 0) 0)) uw5 0 rfl rfl 0 (by decide) q_161 rfl rfl dX5_slip_50 ?_
        refine v_getN X (pc := 53) (v := .ref ((b 0) 11)) uw4 1 rfl rfl 6 (by decide) k_10 rfl rfl dX5_slip_53 ?_
        refine v_getN X (pc := 56) (v := .ref ((b 0) 8)) uw1 12 rfl rfl 1 (by decide) k_2 rfl rfl dX5_slip_56 ?_
        refine v_iload X (pc := 59) dX5_slip_59 0 rfl ?_
        obtain ⟨q61, e61, h⟩ := ob h
        refine v_callS X (pc := 61) (st1 := [.int q61]) (w' := (wHS x.g b hs n0 n1 n2 q39.1 q39.2 δ χ)) [.ref ((b 0) 8), .int q44] [] (c_X5_at x.l x.g ((b 0) 8) 48 (n0 8) q44 e61) rfl rfl cw_X5_at q_241 q_221 ⟨by decide, by decide⟩ (Fr.of [9] rfl rfl rfl rfl rfl) rfl (Nat.le_of_ble_eq_true rfl) dX5_slip_61 ?_
        refine v_istore X (pc := 64) (L2 := [(5, .int q61), (4, .int q44), (0, .ref (b 11 0)), (1, .int x1), (2, .int x2), (3, .int x3)]) dX5_slip_64 (by decide) rfl ?_
        refine v_aload_n X (pc := 66) dX5_slip_66 rfl 2 rfl ?_
        refine v_get X (pc := 67) (v := .ref ((b 0) 0)) uw5 0 rfl rfl 0 (by decide) q_161 rfl rfl dX5_slip_67 ?_
        refine v_getN X (pc := 70) (v := .ref ((b 0) 11)) uw4 1 rfl rfl 6 (by decide) k_10 rfl rfl dX5_slip_70 ?_
        refine v_iload X (pc := 73) dX5_slip_73 1 rfl ?_
        refine v_iload_n X (pc := 75) dX5_slip_75 rfl 5 rfl ?_
        obtain ⟨q76, e76, h⟩ := ob h
        refine v_callV X (pc := 76) (st1 := []) (w' := (wHS x.g b hs q76 n1 n2 q39.1 q39.2 δ χ)) [.int q44, .int x3] [] (c_X1_beginAnew x.l x.g (b 0) n0 q44 x3 e76) rfl rfl cw_X1_beginAnew q_354 q_355 q_356 ⟨by decide, by decide⟩ 12 1 rfl rfl rfl (Fr.of [1, 2, 3, 4, 5, 6, 7, 8, 9, 10, 11, 12] rfl rfl rfl rfl rfl) rfl (Nat.le_of_ble_eq_true rfl) dX5_slip_76 ?_
        refine v_iload X (pc := 79) dX5_slip_79 0 rfl ?_
        replace h := oi h
        subst h
        exact v_iret X (pc := 81) F dX5_slip_81
      · replace h := hn (nbt c) h
        refine v_ldc X (pc := 28) (v := (-100002)) q_257 dX5_slip_28 ?_
        replace h := oi h
        subst h
        exact v_iret X (pc := 30) F dX5_slip_30
  · replace h := hn (nbt c) h
    refine v_ldc X (pc := 11) (v := (-100001)) q_240 dX5_slip_11 ?_
    replace h := oi h
    subst h
    exact v_iret X (pc := 13) F dX5_slip_13
theorem cw_X5_slip : CwB yX5_slip cX5_slip 6 (Option.some FieldType.int) 3 := ⟨q_346, q_14, by decide, by decide, by decide +kernel⟩
def f_X5_pass (hs : Int32) (n0 : Blk) (n1 : Blk) (n2 : Blk) (ζ : Row) (η : (Nat → Blk)) (δ : Row) (χ : Blk) (x1 : Int32) (x2 : Bool) (x3 : Int32) : Option (Int32 × Blk × Row × (Nat → Blk)) :=
  (f_X5_passError hs n0 n1 n2 ζ η δ χ x1 x2 x3).bind fun q4 => (if q4 = 0 then (f_X2_keep ζ η n0).bind fun q25 => (f_X4_letThrough n0 x1 x2 x3).bind fun q35 => (f_X1_gapOf q35 x1).bind fun q46 => some (q46, q35, q25.1, q25.2) else some (q4, n0, ζ, η))
set_option maxHeartbeats 4000000 in
set_option maxRecDepth 100000 in
theorem c_X5_pass (l : Launch) (g : Gl) (b : Nat → Nat → Nat) (hs : Int32) (n0 : Blk) (n1 : Blk) (n2 : Blk) (ζ : Row) (η : (Nat → Blk)) (δ : Row) (χ : Blk) (x1 : Int32) (x2 : Bool) (x3 : Int32) {res : Int32 × Blk × Row × (Nat → Blk)} (h : f_X5_pass hs n0 n1 n2 ζ η δ χ x1 x2 x3 = some res) : Ok l g yX5_pass cX5_pass 5 (Option.some FieldType.int) 5 112 [.ref (b 11 0), .int x1, .int (b2i x2), .int x3] (wHS g b hs n0 n1 n2 ζ η δ χ) (some (.int res.1)) (wHS g b hs res.2.1 n1 n2 res.2.2.1 res.2.2.2 δ χ) := by
  refine Ok.of RX5 (by decide) rfl (Nat.le_of_ble_eq_true rfl) (fun x hl hg X F => ?_)
  subst hg; subst hl
  rw [f_X5_pass] at h
  show V x (wHS x.g b hs n0 n1 n2 ζ η δ χ) [(0, .ref (b 11 0)), (1, .int x1), (2, .int (b2i x2)), (3, .int x3)] [] 0
  refine v_aload_n X (pc := 0) dX5_pass_0 rfl 0 rfl ?_
  refine v_iload_n X (pc := 1) dX5_pass_1 rfl 1 rfl ?_
  refine v_iload_n X (pc := 2) dX5_pass_2 rfl 2 rfl ?_
  refine v_iload_n X (pc := 3) dX5_pass_3 rfl 3 rfl ?_
  obtain ⟨q4, e4, h⟩ := ob h
  refine v_callV X (pc := 4) (st1 := [.int q4]) (w' := (wHS x.g b hs n0 n1 n2 ζ η δ χ)) [.int x1, .int (b2i x2), .int x3] [] (c_X5_passError x.l x.g b hs n0 n1 n2 ζ η δ χ x1 x2 x3 e4) rfl rfl cw_X5_passError q_490 q_492 q_12 ⟨by decide, by decide⟩ 0 5 rfl rfl rfl (Fr.all rfl) rfl (Nat.le_of_ble_eq_true rfl) dX5_pass_4 ?_
  refine v_istore X (pc := 7) (L2 := [(4, .int q4), (0, .ref (b 11 0)), (1, .int x1), (2, .int (b2i x2)), (3, .int x3)]) dX5_pass_7 (by decide) rfl ?_
  refine v_iload X (pc := 9) dX5_pass_9 0 rfl ?_
  refine v_ifeq X (pc := 11) (tgt := 17) dX5_pass_11 (by decide) (fun c => ?_) (fun c => ?_)
  · replace h := hp c h
    refine v_aload_n X (pc := 17) dX5_pass_17 rfl 1 rfl ?_
    refine v_get X (pc := 18) (v := .ref ((b 8) 0)) uw5 0 rfl rfl 3 (by decide) q_164 rfl rfl dX5_pass_18 ?_
    refine v_aload_n X (pc := 21) dX5_pass_21 rfl 1 rfl ?_
    refine v_get X (pc := 22) (v := .ref ((b 0) 0)) uw5 0 rfl rfl 0 (by decide) q_161 rfl rfl dX5_pass_22 ?_
    obtain ⟨q25, e25, h⟩ := ob h
    refine v_callV X (pc := 25) (st1 := []) (w' := (wHS x.g b hs n0 n1 n2 q25.1 q25.2 δ χ)) [.ref ((b 0) 0)] [] (c_X2_keep x.l x.g (b 8) (fun j => b (j + 3)) (b 0) ζ η n0 e25) rfl rfl cw_X2_keep q_228 q_229 q_230 ⟨by decide, by decide⟩ 37 2 rfl rfl rfl (Fr.of [37, 38, 39, 40, 41, 42, 43, 44, 45, 46, 47, 48, 49, 50, 51, 52, 53, 54, 55, 56, 57, 58, 59, 60, 61, 62, 63, 64, 65, 66, 67, 68, 69, 70, 71, 72, 73, 74, 75, 76, 77, 78, 79, 80, 81, 82, 83, 84, 85, 86, 87, 88, 89, 90, 91, 92, 93, 94, 95, 96, 97, 98, 1, 2, 3, 4, 5, 6, 7, 8, 9, 10, 11, 12] rfl rfl rfl rfl rfl) rfl (Nat.le_of_ble_eq_true rfl) dX5_pass_25 ?_
    refine v_aload_n X (pc := 28) dX5_pass_28 rfl 1 rfl ?_
    refine v_get X (pc := 29) (v := .ref ((b 0) 0)) uw5 0 rfl rfl 0 (by decide) q_161 rfl rfl dX5_pass_29 ?_
    refine v_iload_n X (pc := 32) dX5_pass_32 rfl 2 rfl ?_
    refine v_iload_n X (pc := 33) dX5_pass_33 rfl 3 rfl ?_
    refine v_iload_n X (pc := 34) dX5_pass_34 rfl 4 rfl ?_
    obtain ⟨q35, e35, h⟩ := ob h
    refine v_callV X (pc := 35) (st1 := []) (w' := (wHS x.g b hs q35 n1 n2 q25.1 q25.2 δ χ)) [.int x1, .int (b2i x2), .int x3] [] (c_X4_letThrough x.l x.g (b 0) n0 x1 x2 x3 e35) rfl rfl cw_X4_letThrough q_501 q_468 q_469 ⟨by decide, by decide⟩ 1 4 rfl rfl rfl (Fr.of [1, 2, 3, 4, 5, 6, 7, 8, 9, 10, 11, 12] rfl rfl rfl rfl rfl) rfl (Nat.le_of_ble_eq_true rfl) dX5_pass_35 ?_
    refine v_aload_n X (pc := 38) dX5_pass_38 rfl 1 rfl ?_
    refine v_get X (pc := 39) (v := .ref ((b 0) 0)) uw5 0 rfl rfl 0 (by decide) q_161 rfl rfl dX5_pass_39 ?_
    refine v_getN X (pc := 42) (v := .ref ((b 0) 11)) uw4 1 rfl rfl 6 (by decide) k_10 rfl rfl dX5_pass_42 ?_
    refine v_iload_n X (pc := 45) dX5_pass_45 rfl 2 rfl ?_
    obtain ⟨q46, e46, h⟩ := ob h
    refine v_callV X (pc := 46) (st1 := [.int q46]) (w' := (wHS x.g b hs q35 n1 n2 q25.1 q25.2 δ χ)) [.int x1] [] (c_X1_gapOf x.l x.g (b 0) q35 x1 e46) rfl rfl cw_X1_gapOf q_242 q_243 q_244 ⟨by decide, by decide⟩ 12 1 rfl rfl rfl (Fr.of [1, 2, 3, 4, 5, 6, 7, 8, 9, 10, 11, 12] rfl rfl rfl rfl rfl) rfl (Nat.le_of_ble_eq_true rfl) dX5_pass_46 ?_
    replace h := oi h
    subst h
    exact v_iret X (pc := 49) F dX5_pass_49
  · replace h := hn c h
    refine v_iload X (pc := 14) dX5_pass_14 0 rfl ?_
    replace h := oi h
    subst h
    exact v_iret X (pc := 16) F dX5_pass_16
theorem cw_X5_pass : CwB yX5_pass cX5_pass 5 (Option.some FieldType.int) 3 := ⟨q_489, q_14, by decide, by decide, by decide +kernel⟩
def f_X5_audit (hs : Int32) (n0 : Blk) (n1 : Blk) (n2 : Blk) (ζ : Row) (η : (Nat → Blk)) (δ : Row) (χ : Blk) (x1 : Int32) : Option (Int32 × Blk × Row × (Nat → Blk)) :=
  lt (f_X4_hasStile n0 x1) fun q5 => (if q5 = true then (f_X2_keep ζ η n0).bind fun q22 => (f_X1_gapOf n0 x1).bind fun q33 => (f_X1_makeAgree n0 x1).bind fun q45 => some (q33, q45, q22.1, q22.2) else some ((-100001), n0, ζ, η))
set_option maxHeartbeats 4000000 in
set_option maxRecDepth 100000 in
theorem c_X5_audit (l : Launch) (g : Gl) (b : Nat → Nat → Nat) (hs : Int32) (n0 : Blk) (n1 : Blk) (n2 : Blk) (ζ : Row) (η : (Nat → Blk)) (δ : Row) (χ : Blk) (x1 : Int32) {res : Int32 × Blk × Row × (Nat → Blk)} (h : f_X5_audit hs n0 n1 n2 ζ η δ χ x1 = some res) : Ok l g yX5_audit cX5_audit 3 (Option.some FieldType.int) 5 112 [.ref (b 11 0), .int x1] (wHS g b hs n0 n1 n2 ζ η δ χ) (some (.int res.1)) (wHS g b hs res.2.1 n1 n2 res.2.2.1 res.2.2.2 δ χ) := by
  refine Ok.of RX5 (by decide) rfl (Nat.le_of_ble_eq_true rfl) (fun x hl hg X F => ?_)
  subst hg; subst hl
  rw [f_X5_audit] at h
  show V x (wHS x.g b hs n0 n1 n2 ζ η δ χ) [(0, .ref (b 11 0)), (1, .int x1)] [] 0
  refine v_aload_n X (pc := 0) dX5_audit_0 rfl 0 rfl ?_
  refine v_get X (pc := 1) (v := .ref ((b 0) 0)) uw5 0 rfl rfl 0 (by decide) q_161 rfl rfl dX5_audit_1 ?_
  refine v_iload_n X (pc := 4) dX5_audit_4 rfl 1 rfl ?_
  obtain ⟨q5, e5, h⟩ := lts h
  refine v_callV X (pc := 5) (st1 := [.int (b2i q5)]) (w' := (wHS x.g b hs n0 n1 n2 ζ η δ χ)) [.int x1] [] (c_X4_hasStile x.l x.g (b 0) n0 x1 e5) rfl rfl cw_X4_hasStile q_236 q_237 q_238 ⟨by decide, by decide⟩ 1 4 rfl rfl rfl (Fr.of [1, 2, 3, 4, 5, 6, 7, 8, 9, 10, 11, 12] rfl rfl rfl rfl rfl) rfl (Nat.le_of_ble_eq_true rfl) dX5_audit_5 ?_
  refine v_ifneB X (pc := 8) (tgt := 14) dX5_audit_8 (by decide) (fun c => ?_) (fun c => ?_)
  · replace h := hp c h
    refine v_aload_n X (pc := 14) dX5_audit_14 rfl 0 rfl ?_
    refine v_get X (pc := 15) (v := .ref ((b 8) 0)) uw5 0 rfl rfl 3 (by decide) q_164 rfl rfl dX5_audit_15 ?_
    refine v_aload_n X (pc := 18) dX5_audit_18 rfl 0 rfl ?_
    refine v_get X (pc := 19) (v := .ref ((b 0) 0)) uw5 0 rfl rfl 0 (by decide) q_161 rfl rfl dX5_audit_19 ?_
    obtain ⟨q22, e22, h⟩ := ob h
    refine v_callV X (pc := 22) (st1 := []) (w' := (wHS x.g b hs n0 n1 n2 q22.1 q22.2 δ χ)) [.ref ((b 0) 0)] [] (c_X2_keep x.l x.g (b 8) (fun j => b (j + 3)) (b 0) ζ η n0 e22) rfl rfl cw_X2_keep q_228 q_229 q_230 ⟨by decide, by decide⟩ 37 2 rfl rfl rfl (Fr.of [37, 38, 39, 40, 41, 42, 43, 44, 45, 46, 47, 48, 49, 50, 51, 52, 53, 54, 55, 56, 57, 58, 59, 60, 61, 62, 63, 64, 65, 66, 67, 68, 69, 70, 71, 72, 73, 74, 75, 76, 77, 78, 79, 80, 81, 82, 83, 84, 85, 86, 87, 88, 89, 90, 91, 92, 93, 94, 95, 96, 97, 98, 1, 2, 3, 4, 5, 6, 7, 8, 9, 10, 11, 12] rfl rfl rfl rfl rfl) rfl (Nat.le_of_ble_eq_true rfl) dX5_audit_22 ?_
    refine v_aload_n X (pc := 25) dX5_audit_25 rfl 0 rfl ?_
    refine v_get X (pc := 26) (v := .ref ((b 0) 0)) uw5 0 rfl rfl 0 (by decide) q_161 rfl rfl dX5_audit_26 ?_
    refine v_getN X (pc := 29) (v := .ref ((b 0) 11)) uw4 1 rfl rfl 6 (by decide) k_10 rfl rfl dX5_audit_29 ?_
    refine v_iload_n X (pc := 32) dX5_audit_32 rfl 1 rfl ?_
    obtain ⟨q33, e33, h⟩ := ob h
    refine v_callV X (pc := 33) (st1 := [.int q33]) (w' := (wHS x.g b hs n0 n1 n2 q22.1 q22.2 δ χ)) [.int x1] [] (c_X1_gapOf x.l x.g (b 0) n0 x1 e33) rfl rfl cw_X1_gapOf q_242 q_243 q_244 ⟨by decide, by decide⟩ 12 1 rfl rfl rfl (Fr.of [1, 2, 3, 4, 5, 6, 7, 8, 9, 10, 11, 12] rfl rfl rfl rfl rfl) rfl (Nat.le_of_ble_eq_true rfl) dX5_audit_33 ?_
    refine v_istore_n X (pc := 36) (L2 := [(2, .int q33), (0, .ref (b 11 0)), (1, .int x1)]) dX5_audit_36 rfl (by decide) rfl ?_
    refine v_aload_n X (pc := 37) dX5_audit_37 rfl 1 rfl ?_
    refine v_get X (pc := 38) (v := .ref ((b 0) 0)) uw5 0 rfl rfl 0 (by decide) q_161 rfl rfl dX5_audit_38 ?_
    refine v_getN X (pc := 41) (v := .ref ((b 0) 11)) uw4 1 rfl rfl 6 (by decide) k_10 rfl rfl dX5_audit_41 ?_
    refine v_iload_n X (pc := 44) dX5_audit_44 rfl 2 rfl ?_
    obtain ⟨q45, e45, h⟩ := ob h
    refine v_callV X (pc := 45) (st1 := []) (w' := (wHS x.g b hs q45 n1 n2 q22.1 q22.2 δ χ)) [.int x1] [] (c_X1_makeAgree x.l x.g (b 0) n0 x1 e45) rfl rfl cw_X1_makeAgree q_363 q_364 q_365 ⟨by decide, by decide⟩ 12 1 rfl rfl rfl (Fr.of [1, 2, 3, 4, 5, 6, 7, 8, 9, 10, 11, 12] rfl rfl rfl rfl rfl) rfl (Nat.le_of_ble_eq_true rfl) dX5_audit_45 ?_
    refine v_iload_n X (pc := 48) dX5_audit_48 rfl 0 rfl ?_
    replace h := oi h
    subst h
    exact v_iret X (pc := 49) F dX5_audit_49
  · replace h := hn (nbt c) h
    refine v_ldc X (pc := 11) (v := (-100001)) q_240 dX5_audit_11 ?_
    replace h := oi h
    subst h
    exact v_iret X (pc := 13) F dX5_audit_13
theorem cw_X5_audit : CwB yX5_audit cX5_audit 3 (Option.some FieldType.int) 1 := ⟨q_362, q_14, by decide, by decide, by decide +kernel⟩
def f_X5_repair (hs : Int32) (n0 : Blk) (n1 : Blk) (n2 : Blk) (ζ : Row) (η : (Nat → Blk)) (δ : Row) (χ : Blk) (x1 : Int32) : Option (Int32 × Blk × Row × (Nat → Blk)) :=
  (f_X5_repairError hs n0 n1 n2 ζ η δ χ x1).bind fun q2 => (if q2 = 0 then (f_X2_keep ζ η n0).bind fun q20 => (f_X4_beginRepair n0 x1).bind fun q28 => (f_X5_at 12 (q28 6) x1).bind fun q46 => some (((q28 0 3) + q46), q28, q20.1, q20.2) else some (q2, n0, ζ, η))
set_option maxHeartbeats 4000000 in
set_option maxRecDepth 100000 in
theorem c_X5_repair (l : Launch) (g : Gl) (b : Nat → Nat → Nat) (hs : Int32) (n0 : Blk) (n1 : Blk) (n2 : Blk) (ζ : Row) (η : (Nat → Blk)) (δ : Row) (χ : Blk) (x1 : Int32) {res : Int32 × Blk × Row × (Nat → Blk)} (h : f_X5_repair hs n0 n1 n2 ζ η δ χ x1 = some res) : Ok l g yX5_repair cX5_repair 3 (Option.some FieldType.int) 5 112 [.ref (b 11 0), .int x1] (wHS g b hs n0 n1 n2 ζ η δ χ) (some (.int res.1)) (wHS g b hs res.2.1 n1 n2 res.2.2.1 res.2.2.2 δ χ) := by
  refine Ok.of RX5 (by decide) rfl (Nat.le_of_ble_eq_true rfl) (fun x hl hg X F => ?_)
  subst hg; subst hl
  rw [f_X5_repair] at h
  show V x (wHS x.g b hs n0 n1 n2 ζ η δ χ) [(0, .ref (b 11 0)), (1, .int x1)] [] 0
  refine v_aload_n X (pc := 0) dX5_repair_0 rfl 0 rfl ?_
  refine v_iload_n X (pc := 1) dX5_repair_1 rfl 1 rfl ?_
  obtain ⟨q2, e2, h⟩ := ob h
  refine v_callV X (pc := 2) (st1 := [.int q2]) (w' := (wHS x.g b hs n0 n1 n2 ζ η δ χ)) [.int x1] [] (c_X5_repairError x.l x.g b hs n0 n1 n2 ζ η δ χ x1 e2) rfl rfl cw_X5_repairError q_378 q_380 q_4 ⟨by decide, by decide⟩ 0 5 rfl rfl rfl (Fr.all rfl) rfl (Nat.le_of_ble_eq_true rfl) dX5_repair_2 ?_
  refine v_istore_n X (pc := 5) (L2 := [(2, .int q2), (0, .ref (b 11 0)), (1, .int x1)]) dX5_repair_5 rfl (by decide) rfl ?_
  refine v_iload_n X (pc := 6) dX5_repair_6 rfl 0 rfl ?_
  refine v_ifeq X (pc := 7) (tgt := 12) dX5_repair_7 (by decide) (fun c => ?_) (fun c => ?_)
  · replace h := hp c h
    refine v_aload_n X (pc := 12) dX5_repair_12 rfl 1 rfl ?_
    refine v_get X (pc := 13) (v := .ref ((b 8) 0)) uw5 0 rfl rfl 3 (by decide) q_164 rfl rfl dX5_repair_13 ?_
    refine v_aload_n X (pc := 16) dX5_repair_16 rfl 1 rfl ?_
    refine v_get X (pc := 17) (v := .ref ((b 0) 0)) uw5 0 rfl rfl 0 (by decide) q_161 rfl rfl dX5_repair_17 ?_
    obtain ⟨q20, e20, h⟩ := ob h
    refine v_callV X (pc := 20) (st1 := []) (w' := (wHS x.g b hs n0 n1 n2 q20.1 q20.2 δ χ)) [.ref ((b 0) 0)] [] (c_X2_keep x.l x.g (b 8) (fun j => b (j + 3)) (b 0) ζ η n0 e20) rfl rfl cw_X2_keep q_228 q_229 q_230 ⟨by decide, by decide⟩ 37 2 rfl rfl rfl (Fr.of [37, 38, 39, 40, 41, 42, 43, 44, 45, 46, 47, 48, 49, 50, 51, 52, 53, 54, 55, 56, 57, 58, 59, 60, 61, 62, 63, 64, 65, 66, 67, 68, 69, 70, 71, 72, 73, 74, 75, 76, 77, 78, 79, 80, 81, 82, 83, 84, 85, 86, 87, 88, 89, 90, 91, 92, 93, 94, 95, 96, 97, 98, 1, 2, 3, 4, 5, 6, 7, 8, 9, 10, 11, 12] rfl rfl rfl rfl rfl) rfl (Nat.le_of_ble_eq_true rfl) dX5_repair_20 ?_
    refine v_aload_n X (pc := 23) dX5_repair_23 rfl 1 rfl ?_
    refine v_get X (pc := 24) (v := .ref ((b 0) 0)) uw5 0 rfl rfl 0 (by decide) q_161 rfl rfl dX5_repair_24 ?_
    refine v_iload_n X (pc := 27) dX5_repair_27 rfl 2 rfl ?_
    obtain ⟨q28, e28, h⟩ := ob h
    refine v_callV X (pc := 28) (st1 := []) (w' := (wHS x.g b hs q28 n1 n2 q20.1 q20.2 δ χ)) [.int x1] [] (c_X4_beginRepair x.l x.g (b 0) n0 x1 e28) rfl rfl cw_X4_beginRepair q_382 q_383 q_384 ⟨by decide, by decide⟩ 1 4 rfl rfl rfl (Fr.of [1, 2, 3, 4, 5, 6, 7, 8, 9, 10, 11, 12] rfl rfl rfl rfl rfl) rfl (Nat.le_of_ble_eq_true rfl) dX5_repair_28 ?_
    refine v_aload_n X (pc := 31) dX5_repair_31 rfl 1 rfl ?_
    refine v_get X (pc := 32) (v := .ref ((b 0) 0)) uw5 0 rfl rfl 0 (by decide) q_161 rfl rfl dX5_repair_32 ?_
    refine v_getN X (pc := 35) (v := .int (q28 0 3)) uw4 1 rfl rfl 10 (by decide) k_16 rfl rfl dX5_repair_35 ?_
    refine v_aload_n X (pc := 38) dX5_repair_38 rfl 1 rfl ?_
    refine v_get X (pc := 39) (v := .ref ((b 0) 0)) uw5 0 rfl rfl 0 (by decide) q_161 rfl rfl dX5_repair_39 ?_
    refine v_getN X (pc := 42) (v := .ref ((b 0) 6)) uw4 1 rfl rfl 5 (by decide) k_9 rfl rfl dX5_repair_42 ?_
    refine v_iload_n X (pc := 45) dX5_repair_45 rfl 2 rfl ?_
    obtain ⟨q46, e46, h⟩ := ob h
    refine v_callS X (pc := 46) (st1 := [.int q46, .int (q28 0 3)]) (w' := (wHS x.g b hs q28 n1 n2 q20.1 q20.2 δ χ)) [.ref ((b 0) 6), .int x1] [.int (q28 0 3)] (c_X5_at x.l x.g ((b 0) 6) 12 (q28 6) x1 e46) rfl rfl cw_X5_at q_241 q_221 ⟨by decide, by decide⟩ (Fr.of [7] rfl rfl rfl rfl rfl) rfl (Nat.le_of_ble_eq_true rfl) dX5_repair_46 ?_
    refine v_iadd X (pc := 49) dX5_repair_49 ?_
    replace h := oi h
    subst h
    exact v_iret X (pc := 50) F dX5_repair_50
  · replace h := hn c h
    refine v_iload_n X (pc := 10) dX5_repair_10 rfl 0 rfl ?_
    replace h := oi h
    subst h
    exact v_iret X (pc := 11) F dX5_repair_11
theorem cw_X5_repair : CwB yX5_repair cX5_repair 3 (Option.some FieldType.int) 1 := ⟨q_377, q_14, by decide, by decide, by decide +kernel⟩
def f_X5_hours (hs : Int32) (n0 : Blk) (n1 : Blk) (n2 : Blk) (ζ : Row) (η : (Nat → Blk)) (δ : Row) (χ : Blk) (x1 : Int32) : Option (Int32 × Blk × Row × (Nat → Blk)) :=
  lt (f_X5_isManyHours x1) fun q1 => (if q1 = true then (f_X2_keep ζ η n0).bind fun q18 => (f_X4_letHoursPass n0 x1).bind fun q26 => some (q26.1, q26.2, q18.1, q18.2) else some ((-100002), n0, ζ, η))
set_option maxHeartbeats 4000000 in
set_option maxRecDepth 100000 in
theorem c_X5_hours (l : Launch) (g : Gl) (b : Nat → Nat → Nat) (hs : Int32) (n0 : Blk) (n1 : Blk) (n2 : Blk) (ζ : Row) (η : (Nat → Blk)) (δ : Row) (χ : Blk) (x1 : Int32) {res : Int32 × Blk × Row × (Nat → Blk)} (h : f_X5_hours hs n0 n1 n2 ζ η δ χ x1 = some res) : Ok l g yX5_hours cX5_hours 2 (Option.some FieldType.int) 5 112 [.ref (b 11 0), .int x1] (wHS g b hs n0 n1 n2 ζ η δ χ) (some (.int res.1)) (wHS g b hs res.2.1 n1 n2 res.2.2.1 res.2.2.2 δ χ) := by
  refine Ok.of RX5 (by decide) rfl (Nat.le_of_ble_eq_true rfl) (fun x hl hg X F => ?_)
  subst hg; subst hl
  rw [f_X5_hours] at h
  show V x (wHS x.g b hs n0 n1 n2 ζ η δ χ) [(0, .ref (b 11 0)), (1, .int x1)] [] 0
  refine v_iload_n X (pc := 0) dX5_hours_0 rfl 1 rfl ?_
  obtain ⟨q1, e1, h⟩ := lts h
  refine v_callS X (pc := 1) (st1 := [.int (b2i q1)]) (w' := (wHS x.g b hs n0 n1 n2 ζ η δ χ)) [.int x1] [] (c_X5_isManyHours x.l x.g  x1 e1) rfl rfl cw_X5_isManyHours q_390 q_391 ⟨by decide, by decide⟩ Fr.nil rfl (Nat.le_of_ble_eq_true rfl) dX5_hours_1 ?_
  refine v_ifneB X (pc := 4) (tgt := 10) dX5_hours_4 (by decide) (fun c => ?_) (fun c => ?_)
  · replace h := hp c h
    refine v_aload_n X (pc := 10) dX5_hours_10 rfl 0 rfl ?_
    refine v_get X (pc := 11) (v := .ref ((b 8) 0)) uw5 0 rfl rfl 3 (by decide) q_164 rfl rfl dX5_hours_11 ?_
    refine v_aload_n X (pc := 14) dX5_hours_14 rfl 0 rfl ?_
    refine v_get X (pc := 15) (v := .ref ((b 0) 0)) uw5 0 rfl rfl 0 (by decide) q_161 rfl rfl dX5_hours_15 ?_
    obtain ⟨q18, e18, h⟩ := ob h
    refine v_callV X (pc := 18) (st1 := []) (w' := (wHS x.g b hs n0 n1 n2 q18.1 q18.2 δ χ)) [.ref ((b 0) 0)] [] (c_X2_keep x.l x.g (b 8) (fun j => b (j + 3)) (b 0) ζ η n0 e18) rfl rfl cw_X2_keep q_228 q_229 q_230 ⟨by decide, by decide⟩ 37 2 rfl rfl rfl (Fr.of [37, 38, 39, 40, 41, 42, 43, 44, 45, 46, 47, 48, 49, 50, 51, 52, 53, 54, 55, 56, 57, 58, 59, 60, 61, 62, 63, 64, 65, 66, 67, 68, 69, 70, 71, 72, 73, 74, 75, 76, 77, 78, 79, 80, 81, 82, 83, 84, 85, 86, 87, 88, 89, 90, 91, 92, 93, 94, 95, 96, 97, 98, 1, 2, 3, 4, 5, 6, 7, 8, 9, 10, 11, 12] rfl rfl rfl rfl rfl) rfl (Nat.le_of_ble_eq_true rfl) dX5_hours_18 ?_
    refine v_aload_n X (pc := 21) dX5_hours_21 rfl 0 rfl ?_
    refine v_get X (pc := 22) (v := .ref ((b 0) 0)) uw5 0 rfl rfl 0 (by decide) q_161 rfl rfl dX5_hours_22 ?_
    refine v_iload_n X (pc := 25) dX5_hours_25 rfl 1 rfl ?_
    obtain ⟨q26, e26, h⟩ := ob h
    refine v_callV X (pc := 26) (st1 := [.int q26.1]) (w' := (wHS x.g b hs q26.2 n1 n2 q18.1 q18.2 δ χ)) [.int x1] [] (c_X4_letHoursPass x.l x.g (b 0) n0 x1 e26) rfl rfl cw_X4_letHoursPass q_393 q_394 q_395 ⟨by decide, by decide⟩ 1 4 rfl rfl rfl (Fr.of [1, 2, 3, 4, 5, 6, 7, 8, 9, 10, 11, 12] rfl rfl rfl rfl rfl) rfl (Nat.le_of_ble_eq_true rfl) dX5_hours_26 ?_
    replace h := oi h
    subst h
    exact v_iret X (pc := 29) F dX5_hours_29
  · replace h := hn (nbt c) h
    refine v_ldc X (pc := 7) (v := (-100002)) q_257 dX5_hours_7 ?_
    replace h := oi h
    subst h
    exact v_iret X (pc := 9) F dX5_hours_9
theorem cw_X5_hours : CwB yX5_hours cX5_hours 2 (Option.some FieldType.int) 1 := ⟨q_389, q_14, by decide, by decide, by decide +kernel⟩
def f_X5_close_L25 (hs : Int32) (n1 : Blk) (n2 : Blk) (ζ : Row) (η : (Nat → Blk)) (χ : Blk) (x1 : Int32) : Nat → Blk → Row → Int32 → Int32 → Option (Int32 × Blk × Row × (Nat → Blk) × Row)
  | 0, _, _, _, _ => none
  | n + 1, n0, δ, x2, x3 =>
    (if x1 ≤ x3 then (f_X4_peopleOfAllHalls n0).bind fun q64 => some (q64, n0, ζ, η, δ) else (if x2 = 0 then (f_X4_peopleOfAllHalls n0).bind fun q64 => some (q64, n0, ζ, η, δ) else (f_X0_closeForAnHour δ n0).bind fun q42 => (if q42.1 ≤ 0 then f_X5_close_L25 hs n1 n2 ζ η χ x1 n q42.2.2 q42.2.1 0 (x3 + 1) else f_X5_close_L25 hs n1 n2 ζ η χ x1 n q42.2.2 q42.2.1 1 (x3 + 1))))
set_option maxHeartbeats 4000000 in
set_option maxRecDepth 100000 in
theorem v_X5_close_L25 {x : Ctx} (X : Cx x RX5 cX5_close 4 7 161) (b : Nat → Nat → Nat) (hs : Int32) (n1 : Blk) (n2 : Blk) (ζ : Row) (η : (Nat → Blk)) (χ : Blk) (x1 : Int32) : ∀ (n : Nat) (n0 : Blk) (δ : Row) (x2 : Int32) (x3 : Int32) {res : Int32 × Blk × Row × (Nat → Blk) × Row}, f_X5_close_L25 hs n1 n2 ζ η χ x1 n n0 δ x2 x3 = some res → Fn x (Option.some FieldType.int) (some (.int res.1)) (wHS x.g b hs res.2.1 n1 n2 res.2.2.1 res.2.2.2.1 res.2.2.2.2 χ) → V x (wHS x.g b hs n0 n1 n2 ζ η δ χ) [(0, .ref (b 11 0)), (1, .int x1), (2, .int x2), (3, .int x3)] [] 25 := by
  intro n
  induction n with
  | zero =>
    intro n0 δ x2 x3 res h F
    rw [f_X5_close_L25] at h
    cases h
  | succ n ih =>
    intro n0 δ x2 x3 res h F
    rw [f_X5_close_L25] at h
    refine v_iload_n X (pc := 25) dX5_close_25 rfl 3 rfl ?_
    refine v_iload_n X (pc := 26) dX5_close_26 rfl 1 rfl ?_
    refine v_icmpge X (pc := 27) (tgt := 60) dX5_close_27 (by decide) (fun c => ?_) (fun c => ?_)
    · replace h := hp c h
      refine v_aload_n X (pc := 60) dX5_close_60 rfl 0 rfl ?_
      refine v_get X (pc := 61) (v := .ref ((b 0) 0)) uw5 0 rfl rfl 0 (by decide) q_161 rfl rfl dX5_close_61 ?_
      obtain ⟨q64, e64, h⟩ := ob h
      refine v_callV X (pc := 64) (st1 := [.int q64]) (w' := (wHS x.g b hs n0 n1 n2 ζ η δ χ)) [] [] (c_X4_peopleOfAllHalls x.l x.g (b 0) n0 e64) rfl rfl cw_X4_peopleOfAllHalls q_213 q_214 q_215 ⟨by decide, by decide⟩ 1 4 rfl rfl rfl (Fr.of [1, 2, 3, 4, 5, 6, 7, 8, 9, 10, 11, 12] rfl rfl rfl rfl rfl) rfl (Nat.le_of_ble_eq_true rfl) dX5_close_64 ?_
      replace h := oi h
      subst h
      exact v_iret X (pc := 67) F dX5_close_67
    · replace h := hn c h
      refine v_iload_n X (pc := 30) dX5_close_30 rfl 2 rfl ?_
      refine v_ifeq X (pc := 31) (tgt := 60) dX5_close_31 (by decide) (fun c => ?_) (fun c => ?_)
      · replace h := hp c h
        refine v_aload_n X (pc := 60) dX5_close_60 rfl 0 rfl ?_
        refine v_get X (pc := 61) (v := .ref ((b 0) 0)) uw5 0 rfl rfl 0 (by decide) q_161 rfl rfl dX5_close_61 ?_
        obtain ⟨q64, e64, h⟩ := ob h
        refine v_callV X (pc := 64) (st1 := [.int q64]) (w' := (wHS x.g b hs n0 n1 n2 ζ η δ χ)) [] [] (c_X4_peopleOfAllHalls x.l x.g (b 0) n0 e64) rfl rfl cw_X4_peopleOfAllHalls q_213 q_214 q_215 ⟨by decide, by decide⟩ 1 4 rfl rfl rfl (Fr.of [1, 2, 3, 4, 5, 6, 7, 8, 9, 10, 11, 12] rfl rfl rfl rfl rfl) rfl (Nat.le_of_ble_eq_true rfl) dX5_close_64 ?_
        replace h := oi h
        subst h
        exact v_iret X (pc := 67) F dX5_close_67
      · replace h := hn c h
        refine v_aload_n X (pc := 34) dX5_close_34 rfl 0 rfl ?_
        refine v_get X (pc := 35) (v := .ref ((b 9) 0)) uw5 0 rfl rfl 4 (by decide) q_165 rfl rfl dX5_close_35 ?_
        refine v_aload_n X (pc := 38) dX5_close_38 rfl 0 rfl ?_
        refine v_get X (pc := 39) (v := .ref ((b 0) 0)) uw5 0 rfl rfl 0 (by decide) q_161 rfl rfl dX5_close_39 ?_
        obtain ⟨q42, e42, h⟩ := ob h
        refine v_callV X (pc := 42) (st1 := [.int q42.1]) (w' := (wHS x.g b hs q42.2.2 n1 n2 ζ η q42.2.1 χ)) [.ref ((b 0) 0)] [] (c_X0_closeForAnHour x.l x.g (b 9) (b 0) δ n0 e42) rfl rfl cw_X0_closeForAnHour q_413 q_414 q_415 ⟨by decide, by decide⟩ 99 0 rfl rfl rfl (Fr.of [99, 100, 1, 2, 3, 4, 5, 6, 7, 8, 9, 10, 11, 12] rfl rfl rfl rfl rfl) rfl (Nat.le_of_ble_eq_true rfl) dX5_close_42 ?_
        refine v_ifle X (pc := 45) (tgt := 52) dX5_close_45 (by decide) (fun c => ?_) (fun c => ?_)
        · replace h := hp c h
          refine v_iconst X (pc := 52) (v := 0) dX5_close_52 (by decide) ?_
          refine v_istore_n X (pc := 53) (L2 := [(2, .int 0), (0, .ref (b 11 0)), (1, .int x1), (3, .int x3)]) dX5_close_53 rfl (by decide) rfl ?_
          refine v_iinc X (pc := 54) (v := (x3 + 1)) (L2 := [(3, .int (x3 + 1)), (2, .int 0), (0, .ref (b 11 0)), (1, .int x1)]) dX5_close_54 3 rfl (by first | rfl | decide) (by decide) rfl ?_
          refine v_goto X (pc := 57) (tgt := 25) dX5_close_57 (by decide) ?_
          refine v_sub (L2 := [(0, .ref (b 11 0)), (1, .int x1), (2, .int 0), (3, .int (x3 + 1))]) [2, 3, 1, 0] rfl ?_
          exact ih q42.2.2 q42.2.1 0 (x3 + 1) h F
        · replace h := hn c h
          refine v_iconst X (pc := 48) (v := 1) dX5_close_48 (by decide) ?_
          refine v_goto X (pc := 49) (tgt := 53) dX5_close_49 (by decide) ?_
          refine v_istore_n X (pc := 53) (L2 := [(2, .int 1), (0, .ref (b 11 0)), (1, .int x1), (3, .int x3)]) dX5_close_53 rfl (by decide) rfl ?_
          refine v_iinc X (pc := 54) (v := (x3 + 1)) (L2 := [(3, .int (x3 + 1)), (2, .int 1), (0, .ref (b 11 0)), (1, .int x1)]) dX5_close_54 3 rfl (by first | rfl | decide) (by decide) rfl ?_
          refine v_goto X (pc := 57) (tgt := 25) dX5_close_57 (by decide) ?_
          refine v_sub (L2 := [(0, .ref (b 11 0)), (1, .int x1), (2, .int 1), (3, .int (x3 + 1))]) [2, 3, 1, 0] rfl ?_
          exact ih q42.2.2 q42.2.1 1 (x3 + 1) h F
def f_X5_close (hs : Int32) (n0 : Blk) (n1 : Blk) (n2 : Blk) (ζ : Row) (η : (Nat → Blk)) (δ : Row) (χ : Blk) (x1 : Int32) : Option (Int32 × Blk × Row × (Nat → Blk) × Row) :=
  lt (f_X5_isManyHours x1) fun q1 => (if q1 = true then (f_X2_keep ζ η n0).bind fun q18 => f_X5_close_L25 hs n1 n2 q18.1 q18.2 χ x1 FU n0 δ 1 0 else some ((-100002), n0, ζ, η, δ))
set_option maxHeartbeats 4000000 in
set_option maxRecDepth 100000 in
theorem c_X5_close (l : Launch) (g : Gl) (b : Nat → Nat → Nat) (hs : Int32) (n0 : Blk) (n1 : Blk) (n2 : Blk) (ζ : Row) (η : (Nat → Blk)) (δ : Row) (χ : Blk) (x1 : Int32) {res : Int32 × Blk × Row × (Nat → Blk) × Row} (h : f_X5_close hs n0 n1 n2 ζ η δ χ x1 = some res) : Ok l g yX5_close cX5_close 4 (Option.some FieldType.int) 7 161 [.ref (b 11 0), .int x1] (wHS g b hs n0 n1 n2 ζ η δ χ) (some (.int res.1)) (wHS g b hs res.2.1 n1 n2 res.2.2.1 res.2.2.2.1 res.2.2.2.2 χ) := by
  refine Ok.of RX5 (by decide) rfl (Nat.le_of_ble_eq_true rfl) (fun x hl hg X F => ?_)
  subst hg; subst hl
  rw [f_X5_close] at h
  show V x (wHS x.g b hs n0 n1 n2 ζ η δ χ) [(0, .ref (b 11 0)), (1, .int x1)] [] 0
  refine v_iload_n X (pc := 0) dX5_close_0 rfl 1 rfl ?_
  obtain ⟨q1, e1, h⟩ := lts h
  refine v_callS X (pc := 1) (st1 := [.int (b2i q1)]) (w' := (wHS x.g b hs n0 n1 n2 ζ η δ χ)) [.int x1] [] (c_X5_isManyHours x.l x.g  x1 e1) rfl rfl cw_X5_isManyHours q_390 q_391 ⟨by decide, by decide⟩ Fr.nil rfl (Nat.le_of_ble_eq_true rfl) dX5_close_1 ?_
  refine v_ifneB X (pc := 4) (tgt := 10) dX5_close_4 (by decide) (fun c => ?_) (fun c => ?_)
  · replace h := hp c h
    refine v_aload_n X (pc := 10) dX5_close_10 rfl 0 rfl ?_
    refine v_get X (pc := 11) (v := .ref ((b 8) 0)) uw5 0 rfl rfl 3 (by decide) q_164 rfl rfl dX5_close_11 ?_
    refine v_aload_n X (pc := 14) dX5_close_14 rfl 0 rfl ?_
    refine v_get X (pc := 15) (v := .ref ((b 0) 0)) uw5 0 rfl rfl 0 (by decide) q_161 rfl rfl dX5_close_15 ?_
    obtain ⟨q18, e18, h⟩ := ob h
    refine v_callV X (pc := 18) (st1 := []) (w' := (wHS x.g b hs n0 n1 n2 q18.1 q18.2 δ χ)) [.ref ((b 0) 0)] [] (c_X2_keep x.l x.g (b 8) (fun j => b (j + 3)) (b 0) ζ η n0 e18) rfl rfl cw_X2_keep q_228 q_229 q_230 ⟨by decide, by decide⟩ 37 2 rfl rfl rfl (Fr.of [37, 38, 39, 40, 41, 42, 43, 44, 45, 46, 47, 48, 49, 50, 51, 52, 53, 54, 55, 56, 57, 58, 59, 60, 61, 62, 63, 64, 65, 66, 67, 68, 69, 70, 71, 72, 73, 74, 75, 76, 77, 78, 79, 80, 81, 82, 83, 84, 85, 86, 87, 88, 89, 90, 91, 92, 93, 94, 95, 96, 97, 98, 1, 2, 3, 4, 5, 6, 7, 8, 9, 10, 11, 12] rfl rfl rfl rfl rfl) rfl (Nat.le_of_ble_eq_true rfl) dX5_close_18 ?_
    refine v_iconst X (pc := 21) (v := 1) dX5_close_21 (by decide) ?_
    refine v_istore_n X (pc := 22) (L2 := [(2, .int 1), (0, .ref (b 11 0)), (1, .int x1)]) dX5_close_22 rfl (by decide) rfl ?_
    refine v_iconst X (pc := 23) (v := 0) dX5_close_23 (by decide) ?_
    refine v_istore_n X (pc := 24) (L2 := [(3, .int 0), (2, .int 1), (0, .ref (b 11 0)), (1, .int x1)]) dX5_close_24 rfl (by decide) rfl ?_
    refine v_sub (L2 := [(0, .ref (b 11 0)), (1, .int x1), (2, .int 1), (3, .int 0)]) [2, 3, 1, 0] rfl ?_
    exact v_X5_close_L25 X b hs n1 n2 q18.1 q18.2 χ x1 FU n0 δ 1 0 h F
  · replace h := hn (nbt c) h
    refine v_ldc X (pc := 7) (v := (-100002)) q_257 dX5_close_7 ?_
    replace h := oi h
    subst h
    exact v_iret X (pc := 9) F dX5_close_9
theorem cw_X5_close : CwB yX5_close cX5_close 4 (Option.some FieldType.int) 1 := ⟨q_412, q_14, by decide, by decide, by decide +kernel⟩
def f_X5_set (hs : Int32) (n0 : Blk) (n1 : Blk) (n2 : Blk) (ζ : Row) (η : (Nat → Blk)) (δ : Row) (χ : Blk) (x1 : Int32) (x2 : Int32) : Option (Int32 × Blk × Row × (Nat → Blk)) :=
  (if x1 = 0 then (if x2 < 1 then some ((-100002), n0, ζ, η) else (if x1 = 0 then (if x2 ≤ 99 then (f_X2_keep ζ η n0).bind fun q43 => (if x1 = 0 then (if x1 = 0 then lt (up n0 0 1 x2) fun m77 => some ((n0 0 1), m77, q43.1, q43.2) else lt (up n0 0 2 x2) fun m88 => some ((n0 0 1), m88, q43.1, q43.2)) else (if x1 = 0 then lt (up n0 0 1 x2) fun m77 => some ((n0 0 2), m77, q43.1, q43.2) else lt (up n0 0 2 x2) fun m88 => some ((n0 0 2), m88, q43.1, q43.2))) else some ((-100002), n0, ζ, η)) else (if x2 ≤ 48 then (f_X2_keep ζ η n0).bind fun q43 => (if x1 = 0 then (if x1 = 0 then lt (up n0 0 1 x2) fun m77 => some ((n0 0 1), m77, q43.1, q43.2) else lt (up n0 0 2 x2) fun m88 => some ((n0 0 1), m88, q43.1, q43.2)) else (if x1 = 0 then lt (up n0 0 1 x2) fun m77 => some ((n0 0 2), m77, q43.1, q43.2) else lt (up n0 0 2 x2) fun m88 => some ((n0 0 2), m88, q43.1, q43.2))) else some ((-100002), n0, ζ, η)))) else (if x1 = 1 then (if x2 < 1 then some ((-100002), n0, ζ, η) else (if x1 = 0 then (if x2 ≤ 99 then (f_X2_keep ζ η n0).bind fun q43 => (if x1 = 0 then (if x1 = 0 then lt (up n0 0 1 x2) fun m77 => some ((n0 0 1), m77, q43.1, q43.2) else lt (up n0 0 2 x2) fun m88 => some ((n0 0 1), m88, q43.1, q43.2)) else (if x1 = 0 then lt (up n0 0 1 x2) fun m77 => some ((n0 0 2), m77, q43.1, q43.2) else lt (up n0 0 2 x2) fun m88 => some ((n0 0 2), m88, q43.1, q43.2))) else some ((-100002), n0, ζ, η)) else (if x2 ≤ 48 then (f_X2_keep ζ η n0).bind fun q43 => (if x1 = 0 then (if x1 = 0 then lt (up n0 0 1 x2) fun m77 => some ((n0 0 1), m77, q43.1, q43.2) else lt (up n0 0 2 x2) fun m88 => some ((n0 0 1), m88, q43.1, q43.2)) else (if x1 = 0 then lt (up n0 0 1 x2) fun m77 => some ((n0 0 2), m77, q43.1, q43.2) else lt (up n0 0 2 x2) fun m88 => some ((n0 0 2), m88, q43.1, q43.2))) else some ((-100002), n0, ζ, η)))) else some ((-100001), n0, ζ, η)))
set_option maxHeartbeats 4000000 in
set_option maxRecDepth 100000 in
theorem c_X5_set (l : Launch) (g : Gl) (b : Nat → Nat → Nat) (hs : Int32) (n0 : Blk) (n1 : Blk) (n2 : Blk) (ζ : Row) (η : (Nat → Blk)) (δ : Row) (χ : Blk) (x1 : Int32) (x2 : Int32) {res : Int32 × Blk × Row × (Nat → Blk)} (h : f_X5_set hs n0 n1 n2 ζ η δ χ x1 x2 = some res) : Ok l g yX5_set cX5_set 4 (Option.some FieldType.int) 5 112 [.ref (b 11 0), .int x1, .int x2] (wHS g b hs n0 n1 n2 ζ η δ χ) (some (.int res.1)) (wHS g b hs res.2.1 n1 n2 res.2.2.1 res.2.2.2 δ χ) := by
  refine Ok.of RX5 (by decide) rfl (Nat.le_of_ble_eq_true rfl) (fun x hl hg X F => ?_)
  subst hg; subst hl
  rw [f_X5_set] at h
  show V x (wHS x.g b hs n0 n1 n2 ζ η δ χ) [(0, .ref (b 11 0)), (1, .int x1), (2, .int x2)] [] 0
  refine v_iload_n X (pc := 0) dX5_set_0 rfl 1 rfl ?_
  refine v_ifeq X (pc := 1) (tgt := 12) dX5_set_1 (by decide) (fun c => ?_) (fun c => ?_)
  · replace h := hp c h
    refine v_iload_n X (pc := 12) dX5_set_12 rfl 2 rfl ?_
    refine v_iconst X (pc := 13) (v := 1) dX5_set_13 (by decide) ?_
    refine v_icmplt X (pc := 14) (tgt := 32) dX5_set_14 (by decide) (fun c => ?_) (fun c => ?_)
    · replace h := hp c h
      refine v_ldc X (pc := 32) (v := (-100002)) q_257 dX5_set_32 ?_
      replace h := oi h
      subst h
      exact v_iret X (pc := 34) F dX5_set_34
    · replace h := hn c h
      refine v_iload_n X (pc := 17) dX5_set_17 rfl 2 rfl ?_
      refine v_iload_n X (pc := 18) dX5_set_18 rfl 1 rfl ?_
      refine v_ifne X (pc := 19) (tgt := 27) dX5_set_19 (by decide) (fun c => ?_) (fun c => ?_)
      · replace h := hn c h
        refine v_bipush X (pc := 27) (v := 48) dX5_set_27 (by decide) ?_
        refine v_icmple X (pc := 29) (tgt := 35) dX5_set_29 (by decide) (fun c => ?_) (fun c => ?_)
        · replace h := hp c h
          refine v_aload_n X (pc := 35) dX5_set_35 rfl 0 rfl ?_
          refine v_get X (pc := 36) (v := .ref ((b 8) 0)) uw5 0 rfl rfl 3 (by decide) q_164 rfl rfl dX5_set_36 ?_
          refine v_aload_n X (pc := 39) dX5_set_39 rfl 0 rfl ?_
          refine v_get X (pc := 40) (v := .ref ((b 0) 0)) uw5 0 rfl rfl 0 (by decide) q_161 rfl rfl dX5_set_40 ?_
          obtain ⟨q43, e43, h⟩ := ob h
          refine v_callV X (pc := 43) (st1 := []) (w' := (wHS x.g b hs n0 n1 n2 q43.1 q43.2 δ χ)) [.ref ((b 0) 0)] [] (c_X2_keep x.l x.g (b 8) (fun j => b (j + 3)) (b 0) ζ η n0 e43) rfl rfl cw_X2_keep q_228 q_229 q_230 ⟨by decide, by decide⟩ 37 2 rfl rfl rfl (Fr.of [37, 38, 39, 40, 41, 42, 43, 44, 45, 46, 47, 48, 49, 50, 51, 52, 53, 54, 55, 56, 57, 58, 59, 60, 61, 62, 63, 64, 65, 66, 67, 68, 69, 70, 71, 72, 73, 74, 75, 76, 77, 78, 79, 80, 81, 82, 83, 84, 85, 86, 87, 88, 89, 90, 91, 92, 93, 94, 95, 96, 97, 98, 1, 2, 3, 4, 5, 6, 7, 8, 9, 10, 11, 12] rfl rfl rfl rfl rfl) rfl (Nat.le_of_ble_eq_true rfl) dX5_set_43 ?_
          refine v_iload_n X (pc := 46) dX5_set_46 rfl 1 rfl ?_
          refine v_ifne X (pc := 47) (tgt := 60) dX5_set_47 (by decide) (fun c => ?_) (fun c => ?_)
          · replace h := hn c h
            refine v_aload_n X (pc := 60) dX5_set_60 rfl 0 rfl ?_
            refine v_get X (pc := 61) (v := .ref ((b 0) 0)) uw5 0 rfl rfl 0 (by decide) q_161 rfl rfl dX5_set_61 ?_
            refine v_getN X (pc := 64) (v := .int (n0 0 2)) uw4 1 rfl rfl 9 (by decide) k_15 rfl rfl dX5_set_64 ?_
            refine v_istore_n X (pc := 67) (L2 := [(3, .int (n0 0 2)), (0, .ref (b 11 0)), (1, .int x1), (2, .int x2)]) dX5_set_67 rfl (by decide) rfl ?_
            refine v_iload_n X (pc := 68) dX5_set_68 rfl 2 rfl ?_
            refine v_ifne X (pc := 69) (tgt := 83) dX5_set_69 (by decide) (fun c => ?_) (fun c => ?_)
            · replace h := hn c h
              refine v_aload_n X (pc := 83) dX5_set_83 rfl 1 rfl ?_
              refine v_get X (pc := 84) (v := .ref ((b 0) 0)) uw5 0 rfl rfl 0 (by decide) q_161 rfl rfl dX5_set_84 ?_
              refine v_iload_n X (pc := 87) dX5_set_87 rfl 3 rfl ?_
              obtain ⟨m88, em88, h⟩ := lts h
              refine v_putN X (pc := 88) (w' := (wHS x.g b hs m88 n1 n2 q43.1 q43.2 δ χ)) uw4 1 rfl rfl 9 (by decide) k_15 rfl tyX4 tyX4_ok nmX4 rfl rfl rfl (Nat.le_of_ble_eq_true rfl) (by rw [← em88]; rfl) dX5_set_88 ?_
              refine v_iload_n X (pc := 91) dX5_set_91 rfl 0 rfl ?_
              replace h := oi h
              subst h
              exact v_iret X (pc := 92) F dX5_set_92
            · replace h := hp c h
              refine v_aload_n X (pc := 72) dX5_set_72 rfl 1 rfl ?_
              refine v_get X (pc := 73) (v := .ref ((b 0) 0)) uw5 0 rfl rfl 0 (by decide) q_161 rfl rfl dX5_set_73 ?_
              refine v_iload_n X (pc := 76) dX5_set_76 rfl 3 rfl ?_
              obtain ⟨m77, em77, h⟩ := lts h
              refine v_putN X (pc := 77) (w' := (wHS x.g b hs m77 n1 n2 q43.1 q43.2 δ χ)) uw4 1 rfl rfl 8 (by decide) k_14 rfl tyX4 tyX4_ok nmX4 rfl rfl rfl (Nat.le_of_ble_eq_true rfl) (by rw [← em77]; rfl) dX5_set_77 ?_
              refine v_goto X (pc := 80) (tgt := 91) dX5_set_80 (by decide) ?_
              refine v_iload_n X (pc := 91) dX5_set_91 rfl 0 rfl ?_
              replace h := oi h
              subst h
              exact v_iret X (pc := 92) F dX5_set_92
          · replace h := hp c h
            refine v_aload_n X (pc := 50) dX5_set_50 rfl 0 rfl ?_
            refine v_get X (pc := 51) (v := .ref ((b 0) 0)) uw5 0 rfl rfl 0 (by decide) q_161 rfl rfl dX5_set_51 ?_
            refine v_getN X (pc := 54) (v := .int (n0 0 1)) uw4 1 rfl rfl 8 (by decide) k_14 rfl rfl dX5_set_54 ?_
            refine v_goto X (pc := 57) (tgt := 67) dX5_set_57 (by decide) ?_
            refine v_istore_n X (pc := 67) (L2 := [(3, .int (n0 0 1)), (0, .ref (b 11 0)), (1, .int x1), (2, .int x2)]) dX5_set_67 rfl (by decide) rfl ?_
            refine v_iload_n X (pc := 68) dX5_set_68 rfl 2 rfl ?_
            refine v_ifne X (pc := 69) (tgt := 83) dX5_set_69 (by decide) (fun c => ?_) (fun c => ?_)
            · replace h := hn c h
              refine v_aload_n X (pc := 83) dX5_set_83 rfl 1 rfl ?_
              refine v_get X (pc := 84) (v := .ref ((b 0) 0)) uw5 0 rfl rfl 0 (by decide) q_161 rfl rfl dX5_set_84 ?_
              refine v_iload_n X (pc := 87) dX5_set_87 rfl 3 rfl ?_
              obtain ⟨m88, em88, h⟩ := lts h
              refine v_putN X (pc := 88) (w' := (wHS x.g b hs m88 n1 n2 q43.1 q43.2 δ χ)) uw4 1 rfl rfl 9 (by decide) k_15 rfl tyX4 tyX4_ok nmX4 rfl rfl rfl (Nat.le_of_ble_eq_true rfl) (by rw [← em88]; rfl) dX5_set_88 ?_
              refine v_iload_n X (pc := 91) dX5_set_91 rfl 0 rfl ?_
              replace h := oi h
              subst h
              exact v_iret X (pc := 92) F dX5_set_92
            · replace h := hp c h
              refine v_aload_n X (pc := 72) dX5_set_72 rfl 1 rfl ?_
              refine v_get X (pc := 73) (v := .ref ((b 0) 0)) uw5 0 rfl rfl 0 (by decide) q_161 rfl rfl dX5_set_73 ?_
              refine v_iload_n X (pc := 76) dX5_set_76 rfl 3 rfl ?_
              obtain ⟨m77, em77, h⟩ := lts h
              refine v_putN X (pc := 77) (w' := (wHS x.g b hs m77 n1 n2 q43.1 q43.2 δ χ)) uw4 1 rfl rfl 8 (by decide) k_14 rfl tyX4 tyX4_ok nmX4 rfl rfl rfl (Nat.le_of_ble_eq_true rfl) (by rw [← em77]; rfl) dX5_set_77 ?_
              refine v_goto X (pc := 80) (tgt := 91) dX5_set_80 (by decide) ?_
              refine v_iload_n X (pc := 91) dX5_set_91 rfl 0 rfl ?_
              replace h := oi h
              subst h
              exact v_iret X (pc := 92) F dX5_set_92
        · replace h := hn c h
          refine v_ldc X (pc := 32) (v := (-100002)) q_257 dX5_set_32 ?_
          replace h := oi h
          subst h
          exact v_iret X (pc := 34) F dX5_set_34
      · replace h := hp c h
        refine v_bipush X (pc := 22) (v := 99) dX5_set_22 (by decide) ?_
        refine v_goto X (pc := 24) (tgt := 29) dX5_set_24 (by decide) ?_
        refine v_icmple X (pc := 29) (tgt := 35) dX5_set_29 (by decide) (fun c => ?_) (fun c => ?_)
        · replace h := hp c h
          refine v_aload_n X (pc := 35) dX5_set_35 rfl 0 rfl ?_
          refine v_get X (pc := 36) (v := .ref ((b 8) 0)) uw5 0 rfl rfl 3 (by decide) q_164 rfl rfl dX5_set_36 ?_
          refine v_aload_n X (pc := 39) dX5_set_39 rfl 0 rfl ?_
          refine v_get X (pc := 40) (v := .ref ((b 0) 0)) uw5 0 rfl rfl 0 (by decide) q_161 rfl rfl dX5_set_40 ?_
          obtain ⟨q43, e43, h⟩ := ob h
          refine v_callV X (pc := 43) (st1 := []) (w' := (wHS x.g b hs n0 n1 n2 q43.1 q43.2 δ χ)) [.ref ((b 0) 0)] [] (c_X2_keep x.l x.g (b 8) (fun j => b (j + 3)) (b 0) ζ η n0 e43) rfl rfl cw_X2_keep q_228 q_229 q_230 ⟨by decide, by decide⟩ 37 2 rfl rfl rfl (Fr.of [37, 38, 39, 40, 41, 42, 43, 44, 45, 46, 47, 48, 49, 50, 51, 52, 53, 54, 55, 56, 57, 58, 59, 60, 61, 62, 63, 64, 65, 66, 67, 68, 69, 70, 71, 72, 73, 74, 75, 76, 77, 78, 79, 80, 81, 82, 83, 84, 85, 86, 87, 88, 89, 90, 91, 92, 93, 94, 95, 96, 97, 98, 1, 2, 3, 4, 5, 6, 7, 8, 9, 10, 11, 12] rfl rfl rfl rfl rfl) rfl (Nat.le_of_ble_eq_true rfl) dX5_set_43 ?_
          refine v_iload_n X (pc := 46) dX5_set_46 rfl 1 rfl ?_
          refine v_ifne X (pc := 47) (tgt := 60) dX5_set_47 (by decide) (fun c => ?_) (fun c => ?_)
          · replace h := hn c h
            refine v_aload_n X (pc := 60) dX5_set_60 rfl 0 rfl ?_
            refine v_get X (pc := 61) (v := .ref ((b 0) 0)) uw5 0 rfl rfl 0 (by decide) q_161 rfl rfl dX5_set_61 ?_
            refine v_getN X (pc := 64) (v := .int (n0 0 2)) uw4 1 rfl rfl 9 (by decide) k_15 rfl rfl dX5_set_64 ?_
            refine v_istore_n X (pc := 67) (L2 := [(3, .int (n0 0 2)), (0, .ref (b 11 0)), (1, .int x1), (2, .int x2)]) dX5_set_67 rfl (by decide) rfl ?_
            refine v_iload_n X (pc := 68) dX5_set_68 rfl 2 rfl ?_
            refine v_ifne X (pc := 69) (tgt := 83) dX5_set_69 (by decide) (fun c => ?_) (fun c => ?_)
            · replace h := hn c h
              refine v_aload_n X (pc := 83) dX5_set_83 rfl 1 rfl ?_
              refine v_get X (pc := 84) (v := .ref ((b 0) 0)) uw5 0 rfl rfl 0 (by decide) q_161 rfl rfl dX5_set_84 ?_
              refine v_iload_n X (pc := 87) dX5_set_87 rfl 3 rfl ?_
              obtain ⟨m88, em88, h⟩ := lts h
              refine v_putN X (pc := 88) (w' := (wHS x.g b hs m88 n1 n2 q43.1 q43.2 δ χ)) uw4 1 rfl rfl 9 (by decide) k_15 rfl tyX4 tyX4_ok nmX4 rfl rfl rfl (Nat.le_of_ble_eq_true rfl) (by rw [← em88]; rfl) dX5_set_88 ?_
              refine v_iload_n X (pc := 91) dX5_set_91 rfl 0 rfl ?_
              replace h := oi h
              subst h
              exact v_iret X (pc := 92) F dX5_set_92
            · replace h := hp c h
              refine v_aload_n X (pc := 72) dX5_set_72 rfl 1 rfl ?_
              refine v_get X (pc := 73) (v := .ref ((b 0) 0)) uw5 0 rfl rfl 0 (by decide) q_161 rfl rfl dX5_set_73 ?_
              refine v_iload_n X (pc := 76) dX5_set_76 rfl 3 rfl ?_
              obtain ⟨m77, em77, h⟩ := lts h
              refine v_putN X (pc := 77) (w' := (wHS x.g b hs m77 n1 n2 q43.1 q43.2 δ χ)) uw4 1 rfl rfl 8 (by decide) k_14 rfl tyX4 tyX4_ok nmX4 rfl rfl rfl (Nat.le_of_ble_eq_true rfl) (by rw [← em77]; rfl) dX5_set_77 ?_
              refine v_goto X (pc := 80) (tgt := 91) dX5_set_80 (by decide) ?_
              refine v_iload_n X (pc := 91) dX5_set_91 rfl 0 rfl ?_
              replace h := oi h
              subst h
              exact v_iret X (pc := 92) F dX5_set_92
          · replace h := hp c h
            refine v_aload_n X (pc := 50) dX5_set_50 rfl 0 rfl ?_
            refine v_get X (pc := 51) (v := .ref ((b 0) 0)) uw5 0 rfl rfl 0 (by decide) q_161 rfl rfl dX5_set_51 ?_
            refine v_getN X (pc := 54) (v := .int (n0 0 1)) uw4 1 rfl rfl 8 (by decide) k_14 rfl rfl dX5_set_54 ?_
            refine v_goto X (pc := 57) (tgt := 67) dX5_set_57 (by decide) ?_
            refine v_istore_n X (pc := 67) (L2 := [(3, .int (n0 0 1)), (0, .ref (b 11 0)), (1, .int x1), (2, .int x2)]) dX5_set_67 rfl (by decide) rfl ?_
            refine v_iload_n X (pc := 68) dX5_set_68 rfl 2 rfl ?_
            refine v_ifne X (pc := 69) (tgt := 83) dX5_set_69 (by decide) (fun c => ?_) (fun c => ?_)
            · replace h := hn c h
              refine v_aload_n X (pc := 83) dX5_set_83 rfl 1 rfl ?_
              refine v_get X (pc := 84) (v := .ref ((b 0) 0)) uw5 0 rfl rfl 0 (by decide) q_161 rfl rfl dX5_set_84 ?_
              refine v_iload_n X (pc := 87) dX5_set_87 rfl 3 rfl ?_
              obtain ⟨m88, em88, h⟩ := lts h
              refine v_putN X (pc := 88) (w' := (wHS x.g b hs m88 n1 n2 q43.1 q43.2 δ χ)) uw4 1 rfl rfl 9 (by decide) k_15 rfl tyX4 tyX4_ok nmX4 rfl rfl rfl (Nat.le_of_ble_eq_true rfl) (by rw [← em88]; rfl) dX5_set_88 ?_
              refine v_iload_n X (pc := 91) dX5_set_91 rfl 0 rfl ?_
              replace h := oi h
              subst h
              exact v_iret X (pc := 92) F dX5_set_92
            · replace h := hp c h
              refine v_aload_n X (pc := 72) dX5_set_72 rfl 1 rfl ?_
              refine v_get X (pc := 73) (v := .ref ((b 0) 0)) uw5 0 rfl rfl 0 (by decide) q_161 rfl rfl dX5_set_73 ?_
              refine v_iload_n X (pc := 76) dX5_set_76 rfl 3 rfl ?_
              obtain ⟨m77, em77, h⟩ := lts h
              refine v_putN X (pc := 77) (w' := (wHS x.g b hs m77 n1 n2 q43.1 q43.2 δ χ)) uw4 1 rfl rfl 8 (by decide) k_14 rfl tyX4 tyX4_ok nmX4 rfl rfl rfl (Nat.le_of_ble_eq_true rfl) (by rw [← em77]; rfl) dX5_set_77 ?_
              refine v_goto X (pc := 80) (tgt := 91) dX5_set_80 (by decide) ?_
              refine v_iload_n X (pc := 91) dX5_set_91 rfl 0 rfl ?_
              replace h := oi h
              subst h
              exact v_iret X (pc := 92) F dX5_set_92
        · replace h := hn c h
          refine v_ldc X (pc := 32) (v := (-100002)) q_257 dX5_set_32 ?_
          replace h := oi h
          subst h
          exact v_iret X (pc := 34) F dX5_set_34
  · replace h := hn c h
    refine v_iload_n X (pc := 4) dX5_set_4 rfl 1 rfl ?_
    refine v_iconst X (pc := 5) (v := 1) dX5_set_5 (by decide) ?_
    refine v_icmpeq X (pc := 6) (tgt := 12) dX5_set_6 (by decide) (fun c => ?_) (fun c => ?_)
    · replace h := hp c h
      refine v_iload_n X (pc := 12) dX5_set_12 rfl 2 rfl ?_
      refine v_iconst X (pc := 13) (v := 1) dX5_set_13 (by decide) ?_
      refine v_icmplt X (pc := 14) (tgt := 32) dX5_set_14 (by decide) (fun c => ?_) (fun c => ?_)
      · replace h := hp c h
        refine v_ldc X (pc := 32) (v := (-100002)) q_257 dX5_set_32 ?_
        replace h := oi h
        subst h
        exact v_iret X (pc := 34) F dX5_set_34
      · replace h := hn c h
        refine v_iload_n X (pc := 17) dX5_set_17 rfl 2 rfl ?_
        refine v_iload_n X (pc := 18) dX5_set_18 rfl 1 rfl ?_
        refine v_ifne X (pc := 19) (tgt := 27) dX5_set_19 (by decide) (fun c => ?_) (fun c => ?_)
        · replace h := hn c h
          refine v_bipush X (pc := 27) (v := 48) dX5_set_27 (by decide) ?_
          refine v_icmple X (pc := 29) (tgt := 35) dX5_set_29 (by decide) (fun c => ?_) (fun c => ?_)
          · replace h := hp c h
            refine v_aload_n X (pc := 35) dX5_set_35 rfl 0 rfl ?_
            refine v_get X (pc := 36) (v := .ref ((b 8) 0)) uw5 0 rfl rfl 3 (by decide) q_164 rfl rfl dX5_set_36 ?_
            refine v_aload_n X (pc := 39) dX5_set_39 rfl 0 rfl ?_
            refine v_get X (pc := 40) (v := .ref ((b 0) 0)) uw5 0 rfl rfl 0 (by decide) q_161 rfl rfl dX5_set_40 ?_
            obtain ⟨q43, e43, h⟩ := ob h
            refine v_callV X (pc := 43) (st1 := []) (w' := (wHS x.g b hs n0 n1 n2 q43.1 q43.2 δ χ)) [.ref ((b 0) 0)] [] (c_X2_keep x.l x.g (b 8) (fun j => b (j + 3)) (b 0) ζ η n0 e43) rfl rfl cw_X2_keep q_228 q_229 q_230 ⟨by decide, by decide⟩ 37 2 rfl rfl rfl (Fr.of [37, 38, 39, 40, 41, 42, 43, 44, 45, 46, 47, 48, 49, 50, 51, 52, 53, 54, 55, 56, 57, 58, 59, 60, 61, 62, 63, 64, 65, 66, 67, 68, 69, 70, 71, 72, 73, 74, 75, 76, 77, 78, 79, 80, 81, 82, 83, 84, 85, 86, 87, 88, 89, 90, 91, 92, 93, 94, 95, 96, 97, 98, 1, 2, 3, 4, 5, 6, 7, 8, 9, 10, 11, 12] rfl rfl rfl rfl rfl) rfl (Nat.le_of_ble_eq_true rfl) dX5_set_43 ?_
            refine v_iload_n X (pc := 46) dX5_set_46 rfl 1 rfl ?_
            refine v_ifne X (pc := 47) (tgt := 60) dX5_set_47 (by decide) (fun c => ?_) (fun c => ?_)
            · replace h := hn c h
              refine v_aload_n X (pc := 60) dX5_set_60 rfl 0 rfl ?_
              refine v_get X (pc := 61) (v := .ref ((b 0) 0)) uw5 0 rfl rfl 0 (by decide) q_161 rfl rfl dX5_set_61 ?_
              refine v_getN X (pc := 64) (v := .int (n0 0 2)) uw4 1 rfl rfl 9 (by decide) k_15 rfl rfl dX5_set_64 ?_
              refine v_istore_n X (pc := 67) (L2 := [(3, .int (n0 0 2)), (0, .ref (b 11 0)), (1, .int x1), (2, .int x2)]) dX5_set_67 rfl (by decide) rfl ?_
              refine v_iload_n X (pc := 68) dX5_set_68 rfl 2 rfl ?_
              refine v_ifne X (pc := 69) (tgt := 83) dX5_set_69 (by decide) (fun c => ?_) (fun c => ?_)
              · replace h := hn c h
                refine v_aload_n X (pc := 83) dX5_set_83 rfl 1 rfl ?_
                refine v_get X (pc := 84) (v := .ref ((b 0) 0)) uw5 0 rfl rfl 0 (by decide) q_161 rfl rfl dX5_set_84 ?_
                refine v_iload_n X (pc := 87) dX5_set_87 rfl 3 rfl ?_
                obtain ⟨m88, em88, h⟩ := lts h
                refine v_putN X (pc := 88) (w' := (wHS x.g b hs m88 n1 n2 q43.1 q43.2 δ χ)) uw4 1 rfl rfl 9 (by decide) k_15 rfl tyX4 tyX4_ok nmX4 rfl rfl rfl (Nat.le_of_ble_eq_true rfl) (by rw [← em88]; rfl) dX5_set_88 ?_
                refine v_iload_n X (pc := 91) dX5_set_91 rfl 0 rfl ?_
                replace h := oi h
                subst h
                exact v_iret X (pc := 92) F dX5_set_92
              · replace h := hp c h
                refine v_aload_n X (pc := 72) dX5_set_72 rfl 1 rfl ?_
                refine v_get X (pc := 73) (v := .ref ((b 0) 0)) uw5 0 rfl rfl 0 (by decide) q_161 rfl rfl dX5_set_73 ?_
                refine v_iload_n X (pc := 76) dX5_set_76 rfl 3 rfl ?_
                obtain ⟨m77, em77, h⟩ := lts h
                refine v_putN X (pc := 77) (w' := (wHS x.g b hs m77 n1 n2 q43.1 q43.2 δ χ)) uw4 1 rfl rfl 8 (by decide) k_14 rfl tyX4 tyX4_ok nmX4 rfl rfl rfl (Nat.le_of_ble_eq_true rfl) (by rw [← em77]; rfl) dX5_set_77 ?_
                refine v_goto X (pc := 80) (tgt := 91) dX5_set_80 (by decide) ?_
                refine v_iload_n X (pc := 91) dX5_set_91 rfl 0 rfl ?_
                replace h := oi h
                subst h
                exact v_iret X (pc := 92) F dX5_set_92
            · replace h := hp c h
              refine v_aload_n X (pc := 50) dX5_set_50 rfl 0 rfl ?_
              refine v_get X (pc := 51) (v := .ref ((b 0) 0)) uw5 0 rfl rfl 0 (by decide) q_161 rfl rfl dX5_set_51 ?_
              refine v_getN X (pc := 54) (v := .int (n0 0 1)) uw4 1 rfl rfl 8 (by decide) k_14 rfl rfl dX5_set_54 ?_
              refine v_goto X (pc := 57) (tgt := 67) dX5_set_57 (by decide) ?_
              refine v_istore_n X (pc := 67) (L2 := [(3, .int (n0 0 1)), (0, .ref (b 11 0)), (1, .int x1), (2, .int x2)]) dX5_set_67 rfl (by decide) rfl ?_
              refine v_iload_n X (pc := 68) dX5_set_68 rfl 2 rfl ?_
              refine v_ifne X (pc := 69) (tgt := 83) dX5_set_69 (by decide) (fun c => ?_) (fun c => ?_)
              · replace h := hn c h
                refine v_aload_n X (pc := 83) dX5_set_83 rfl 1 rfl ?_
                refine v_get X (pc := 84) (v := .ref ((b 0) 0)) uw5 0 rfl rfl 0 (by decide) q_161 rfl rfl dX5_set_84 ?_
                refine v_iload_n X (pc := 87) dX5_set_87 rfl 3 rfl ?_
                obtain ⟨m88, em88, h⟩ := lts h
                refine v_putN X (pc := 88) (w' := (wHS x.g b hs m88 n1 n2 q43.1 q43.2 δ χ)) uw4 1 rfl rfl 9 (by decide) k_15 rfl tyX4 tyX4_ok nmX4 rfl rfl rfl (Nat.le_of_ble_eq_true rfl) (by rw [← em88]; rfl) dX5_set_88 ?_
                refine v_iload_n X (pc := 91) dX5_set_91 rfl 0 rfl ?_
                replace h := oi h
                subst h
                exact v_iret X (pc := 92) F dX5_set_92
              · replace h := hp c h
                refine v_aload_n X (pc := 72) dX5_set_72 rfl 1 rfl ?_
                refine v_get X (pc := 73) (v := .ref ((b 0) 0)) uw5 0 rfl rfl 0 (by decide) q_161 rfl rfl dX5_set_73 ?_
                refine v_iload_n X (pc := 76) dX5_set_76 rfl 3 rfl ?_
                obtain ⟨m77, em77, h⟩ := lts h
                refine v_putN X (pc := 77) (w' := (wHS x.g b hs m77 n1 n2 q43.1 q43.2 δ χ)) uw4 1 rfl rfl 8 (by decide) k_14 rfl tyX4 tyX4_ok nmX4 rfl rfl rfl (Nat.le_of_ble_eq_true rfl) (by rw [← em77]; rfl) dX5_set_77 ?_
                refine v_goto X (pc := 80) (tgt := 91) dX5_set_80 (by decide) ?_
                refine v_iload_n X (pc := 91) dX5_set_91 rfl 0 rfl ?_
                replace h := oi h
                subst h
                exact v_iret X (pc := 92) F dX5_set_92
          · replace h := hn c h
            refine v_ldc X (pc := 32) (v := (-100002)) q_257 dX5_set_32 ?_
            replace h := oi h
            subst h
            exact v_iret X (pc := 34) F dX5_set_34
        · replace h := hp c h
          refine v_bipush X (pc := 22) (v := 99) dX5_set_22 (by decide) ?_
          refine v_goto X (pc := 24) (tgt := 29) dX5_set_24 (by decide) ?_
          refine v_icmple X (pc := 29) (tgt := 35) dX5_set_29 (by decide) (fun c => ?_) (fun c => ?_)
          · replace h := hp c h
            refine v_aload_n X (pc := 35) dX5_set_35 rfl 0 rfl ?_
            refine v_get X (pc := 36) (v := .ref ((b 8) 0)) uw5 0 rfl rfl 3 (by decide) q_164 rfl rfl dX5_set_36 ?_
            refine v_aload_n X (pc := 39) dX5_set_39 rfl 0 rfl ?_
            refine v_get X (pc := 40) (v := .ref ((b 0) 0)) uw5 0 rfl rfl 0 (by decide) q_161 rfl rfl dX5_set_40 ?_
            obtain ⟨q43, e43, h⟩ := ob h
            refine v_callV X (pc := 43) (st1 := []) (w' := (wHS x.g b hs n0 n1 n2 q43.1 q43.2 δ χ)) [.ref ((b 0) 0)] [] (c_X2_keep x.l x.g (b 8) (fun j => b (j + 3)) (b 0) ζ η n0 e43) rfl rfl cw_X2_keep q_228 q_229 q_230 ⟨by decide, by decide⟩ 37 2 rfl rfl rfl (Fr.of [37, 38, 39, 40, 41, 42, 43, 44, 45, 46, 47, 48, 49, 50, 51, 52, 53, 54, 55, 56, 57, 58, 59, 60, 61, 62, 63, 64, 65, 66, 67, 68, 69, 70, 71, 72, 73, 74, 75, 76, 77, 78, 79, 80, 81, 82, 83, 84, 85, 86, 87, 88, 89, 90, 91, 92, 93, 94, 95, 96, 97, 98, 1, 2, 3, 4, 5, 6, 7, 8, 9, 10, 11, 12] rfl rfl rfl rfl rfl) rfl (Nat.le_of_ble_eq_true rfl) dX5_set_43 ?_
            refine v_iload_n X (pc := 46) dX5_set_46 rfl 1 rfl ?_
            refine v_ifne X (pc := 47) (tgt := 60) dX5_set_47 (by decide) (fun c => ?_) (fun c => ?_)
            · replace h := hn c h
              refine v_aload_n X (pc := 60) dX5_set_60 rfl 0 rfl ?_
              refine v_get X (pc := 61) (v := .ref ((b 0) 0)) uw5 0 rfl rfl 0 (by decide) q_161 rfl rfl dX5_set_61 ?_
              refine v_getN X (pc := 64) (v := .int (n0 0 2)) uw4 1 rfl rfl 9 (by decide) k_15 rfl rfl dX5_set_64 ?_
              refine v_istore_n X (pc := 67) (L2 := [(3, .int (n0 0 2)), (0, .ref (b 11 0)), (1, .int x1), (2, .int x2)]) dX5_set_67 rfl (by decide) rfl ?_
              refine v_iload_n X (pc := 68) dX5_set_68 rfl 2 rfl ?_
              refine v_ifne X (pc := 69) (tgt := 83) dX5_set_69 (by decide) (fun c => ?_) (fun c => ?_)
              · replace h := hn c h
                refine v_aload_n X (pc := 83) dX5_set_83 rfl 1 rfl ?_
                refine v_get X (pc := 84) (v := .ref ((b 0) 0)) uw5 0 rfl rfl 0 (by decide) q_161 rfl rfl dX5_set_84 ?_
                refine v_iload_n X (pc := 87) dX5_set_87 rfl 3 rfl ?_
                obtain ⟨m88, em88, h⟩ := lts h
                refine v_putN X (pc := 88) (w' := (wHS x.g b hs m88 n1 n2 q43.1 q43.2 δ χ)) uw4 1 rfl rfl 9 (by decide) k_15 rfl tyX4 tyX4_ok nmX4 rfl rfl rfl (Nat.le_of_ble_eq_true rfl) (by rw [← em88]; rfl) dX5_set_88 ?_
                refine v_iload_n X (pc := 91) dX5_set_91 rfl 0 rfl ?_
                replace h := oi h
                subst h
                exact v_iret X (pc := 92) F dX5_set_92
              · replace h := hp c h
                refine v_aload_n X (pc := 72) dX5_set_72 rfl 1 rfl ?_
                refine v_get X (pc := 73) (v := .ref ((b 0) 0)) uw5 0 rfl rfl 0 (by decide) q_161 rfl rfl dX5_set_73 ?_
                refine v_iload_n X (pc := 76) dX5_set_76 rfl 3 rfl ?_
                obtain ⟨m77, em77, h⟩ := lts h
                refine v_putN X (pc := 77) (w' := (wHS x.g b hs m77 n1 n2 q43.1 q43.2 δ χ)) uw4 1 rfl rfl 8 (by decide) k_14 rfl tyX4 tyX4_ok nmX4 rfl rfl rfl (Nat.le_of_ble_eq_true rfl) (by rw [← em77]; rfl) dX5_set_77 ?_
                refine v_goto X (pc := 80) (tgt := 91) dX5_set_80 (by decide) ?_
                refine v_iload_n X (pc := 91) dX5_set_91 rfl 0 rfl ?_
                replace h := oi h
                subst h
                exact v_iret X (pc := 92) F dX5_set_92
            · replace h := hp c h
              refine v_aload_n X (pc := 50) dX5_set_50 rfl 0 rfl ?_
              refine v_get X (pc := 51) (v := .ref ((b 0) 0)) uw5 0 rfl rfl 0 (by decide) q_161 rfl rfl dX5_set_51 ?_
              refine v_getN X (pc := 54) (v := .int (n0 0 1)) uw4 1 rfl rfl 8 (by decide) k_14 rfl rfl dX5_set_54 ?_
              refine v_goto X (pc := 57) (tgt := 67) dX5_set_57 (by decide) ?_
              refine v_istore_n X (pc := 67) (L2 := [(3, .int (n0 0 1)), (0, .ref (b 11 0)), (1, .int x1), (2, .int x2)]) dX5_set_67 rfl (by decide) rfl ?_
              refine v_iload_n X (pc := 68) dX5_set_68 rfl 2 rfl ?_
              refine v_ifne X (pc := 69) (tgt := 83) dX5_set_69 (by decide) (fun c => ?_) (fun c => ?_)
              · replace h := hn c h
                refine v_aload_n X (pc := 83) dX5_set_83 rfl 1 rfl ?_
                refine v_get X (pc := 84) (v := .ref ((b 0) 0)) uw5 0 rfl rfl 0 (by decide) q_161 rfl rfl dX5_set_84 ?_
                refine v_iload_n X (pc := 87) dX5_set_87 rfl 3 rfl ?_
                obtain ⟨m88, em88, h⟩ := lts h
                refine v_putN X (pc := 88) (w' := (wHS x.g b hs m88 n1 n2 q43.1 q43.2 δ χ)) uw4 1 rfl rfl 9 (by decide) k_15 rfl tyX4 tyX4_ok nmX4 rfl rfl rfl (Nat.le_of_ble_eq_true rfl) (by rw [← em88]; rfl) dX5_set_88 ?_
                refine v_iload_n X (pc := 91) dX5_set_91 rfl 0 rfl ?_
                replace h := oi h
                subst h
                exact v_iret X (pc := 92) F dX5_set_92
              · replace h := hp c h
                refine v_aload_n X (pc := 72) dX5_set_72 rfl 1 rfl ?_
                refine v_get X (pc := 73) (v := .ref ((b 0) 0)) uw5 0 rfl rfl 0 (by decide) q_161 rfl rfl dX5_set_73 ?_
                refine v_iload_n X (pc := 76) dX5_set_76 rfl 3 rfl ?_
                obtain ⟨m77, em77, h⟩ := lts h
                refine v_putN X (pc := 77) (w' := (wHS x.g b hs m77 n1 n2 q43.1 q43.2 δ χ)) uw4 1 rfl rfl 8 (by decide) k_14 rfl tyX4 tyX4_ok nmX4 rfl rfl rfl (Nat.le_of_ble_eq_true rfl) (by rw [← em77]; rfl) dX5_set_77 ?_
                refine v_goto X (pc := 80) (tgt := 91) dX5_set_80 (by decide) ?_
                refine v_iload_n X (pc := 91) dX5_set_91 rfl 0 rfl ?_
                replace h := oi h
                subst h
                exact v_iret X (pc := 92) F dX5_set_92
          · replace h := hn c h
            refine v_ldc X (pc := 32) (v := (-100002)) q_257 dX5_set_32 ?_
            replace h := oi h
            subst h
            exact v_iret X (pc := 34) F dX5_set_34
    · replace h := hn c h
      refine v_ldc X (pc := 9) (v := (-100001)) q_240 dX5_set_9 ?_
      replace h := oi h
      subst h
      exact v_iret X (pc := 11) F dX5_set_11
theorem cw_X5_set : CwB yX5_set cX5_set 4 (Option.some FieldType.int) 2 := ⟨q_485, q_14, by decide, by decide, by decide +kernel⟩
def f_X5_undo (hs : Int32) (n0 : Blk) (n1 : Blk) (n2 : Blk) (ζ : Row) (η : (Nat → Blk)) (δ : Row) (χ : Blk) : Option (Int32 × Blk × Row) :=
  (if (ζ 1) = 0 then some ((-100005), n0, ζ) else (f_X2_takeLatest ζ η n0).bind fun q21 => some ((q21.1 1), q21.2, q21.1))
set_option maxHeartbeats 4000000 in
set_option maxRecDepth 100000 in
theorem c_X5_undo (l : Launch) (g : Gl) (b : Nat → Nat → Nat) (hs : Int32) (n0 : Blk) (n1 : Blk) (n2 : Blk) (ζ : Row) (η : (Nat → Blk)) (δ : Row) (χ : Blk) {res : Int32 × Blk × Row} (h : f_X5_undo hs n0 n1 n2 ζ η δ χ = some res) : Ok l g yX5_undo cX5_undo 1 (Option.some FieldType.int) 5 112 [.ref (b 11 0)] (wHS g b hs n0 n1 n2 ζ η δ χ) (some (.int res.1)) (wHS g b hs res.2.1 n1 n2 res.2.2 η δ χ) := by
  refine Ok.of RX5 (by decide) rfl (Nat.le_of_ble_eq_true rfl) (fun x hl hg X F => ?_)
  subst hg; subst hl
  rw [f_X5_undo] at h
  show V x (wHS x.g b hs n0 n1 n2 ζ η δ χ) [(0, .ref (b 11 0))] [] 0
  refine v_aload_n X (pc := 0) dX5_undo_0 rfl 0 rfl ?_
  refine v_get X (pc := 1) (v := .ref ((b 8) 0)) uw5 0 rfl rfl 3 (by decide) q_164 rfl rfl dX5_undo_1 ?_
  refine v_getN X (pc := 4) (v := .int (ζ 1)) uw2 37 rfl rfl 2 (by decide) k_17 rfl rfl dX5_undo_4 ?_
  refine v_ifne X (pc := 7) (tgt := 13) dX5_undo_7 (by decide) (fun c => ?_) (fun c => ?_)
  · replace h := hn c h
    refine v_aload_n X (pc := 13) dX5_undo_13 rfl 0 rfl ?_
    refine v_get X (pc := 14) (v := .ref ((b 8) 0)) uw5 0 rfl rfl 3 (by decide) q_164 rfl rfl dX5_undo_14 ?_
    refine v_aload_n X (pc := 17) dX5_undo_17 rfl 0 rfl ?_
    refine v_get X (pc := 18) (v := .ref ((b 0) 0)) uw5 0 rfl rfl 0 (by decide) q_161 rfl rfl dX5_undo_18 ?_
    obtain ⟨q21, e21, h⟩ := ob h
    refine v_callV X (pc := 21) (st1 := []) (w' := (wHS x.g b hs q21.2 n1 n2 q21.1 η δ χ)) [.ref ((b 0) 0)] [] (c_X2_takeLatest x.l x.g (b 8) (fun j => b (j + 3)) (b 0) ζ η n0 e21) rfl rfl cw_X2_takeLatest q_188 q_189 q_190 ⟨by decide, by decide⟩ 37 2 rfl rfl rfl (Fr.of [37, 38, 39, 40, 41, 42, 43, 44, 45, 46, 47, 48, 49, 50, 51, 52, 53, 54, 55, 56, 57, 58, 59, 60, 61, 62, 63, 64, 65, 66, 67, 68, 69, 70, 71, 72, 73, 74, 75, 76, 77, 78, 79, 80, 81, 82, 83, 84, 85, 86, 87, 88, 89, 90, 91, 92, 93, 94, 95, 96, 97, 98, 1, 2, 3, 4, 5, 6, 7, 8, 9, 10, 11, 12] rfl rfl rfl rfl rfl) rfl (Nat.le_of_ble_eq_true rfl) dX5_undo_21 ?_
    refine v_aload_n X (pc := 24) dX5_undo_24 rfl 0 rfl ?_
    refine v_get X (pc := 25) (v := .ref ((b 8) 0)) uw5 0 rfl rfl 3 (by decide) q_164 rfl rfl dX5_undo_25 ?_
    refine v_getN X (pc := 28) (v := .int (q21.1 1)) uw2 37 rfl rfl 2 (by decide) k_17 rfl rfl dX5_undo_28 ?_
    replace h := oi h
    subst h
    exact v_iret X (pc := 31) F dX5_undo_31
  · replace h := hp c h
    refine v_ldc X (pc := 10) (v := (-100005)) q_187 dX5_undo_10 ?_
    replace h := oi h
    subst h
    exact v_iret X (pc := 12) F dX5_undo_12
theorem cw_X5_undo : CwB yX5_undo cX5_undo 1 (Option.some FieldType.int) 0 := ⟨q_186, q_14, by decide, by decide, by decide +kernel⟩
def f_X5_save (hs : Int32) (n0 : Blk) (n1 : Blk) (n2 : Blk) (ζ : Row) (η : (Nat → Blk)) (δ : Row) (χ : Blk) : Option (Int32 × Int32 × Blk) :=
  (f_X4_copyFrom n1 n0).bind fun q8 => (f_X4_peopleOfAllHalls n0).bind fun q20 => some (q20, 1, q8)
set_option maxHeartbeats 4000000 in
set_option maxRecDepth 100000 in
theorem c_X5_save (l : Launch) (g : Gl) (b : Nat → Nat → Nat) (hs : Int32) (n0 : Blk) (n1 : Blk) (n2 : Blk) (ζ : Row) (η : (Nat → Blk)) (δ : Row) (χ : Blk) {res : Int32 × Int32 × Blk} (h : f_X5_save hs n0 n1 n2 ζ η δ χ = some res) : Ok l g yX5_save cX5_save 1 (Option.some FieldType.int) 3 64 [.ref (b 11 0)] (wHS g b hs n0 n1 n2 ζ η δ χ) (some (.int res.1)) (wHS g b res.2.1 n0 res.2.2 n2 ζ η δ χ) := by
  refine Ok.of RX5 (by decide) rfl (Nat.le_of_ble_eq_true rfl) (fun x hl hg X F => ?_)
  subst hg; subst hl
  rw [f_X5_save] at h
  show V x (wHS x.g b hs n0 n1 n2 ζ η δ χ) [(0, .ref (b 11 0))] [] 0
  refine v_aload_n X (pc := 0) dX5_save_0 rfl 0 rfl ?_
  refine v_get X (pc := 1) (v := .ref ((b 1) 0)) uw5 0 rfl rfl 1 (by decide) q_162 rfl rfl dX5_save_1 ?_
  refine v_aload_n X (pc := 4) dX5_save_4 rfl 0 rfl ?_
  refine v_get X (pc := 5) (v := .ref ((b 0) 0)) uw5 0 rfl rfl 0 (by decide) q_161 rfl rfl dX5_save_5 ?_
  obtain ⟨q8, e8, h⟩ := ob h
  refine v_callV X (pc := 8) (st1 := []) (w' := (wHS x.g b hs n0 q8 n2 ζ η δ χ)) [.ref ((b 0) 0)] [] (c_X4_copyFrom x.l x.g (b 1) (b 0) n1 n0 e8) rfl rfl cw_X4_copyFrom q_212 q_197 q_198 ⟨by decide, by decide⟩ 13 4 rfl rfl rfl (Fr.of [13, 14, 15, 16, 17, 18, 19, 20, 21, 22, 23, 24, 1, 2, 3, 4, 5, 6, 7, 8, 9, 10, 11, 12] rfl rfl rfl rfl rfl) rfl (Nat.le_of_ble_eq_true rfl) dX5_save_8 ?_
  refine v_aload_n X (pc := 11) dX5_save_11 rfl 0 rfl ?_
  refine v_iconst X (pc := 12) (v := 1) dX5_save_12 (by decide) ?_
  refine v_put X (pc := 13) (w' := (wHS x.g b 1 n0 q8 n2 ζ η δ χ)) uw5 0 rfl rfl 6 (by decide) q_167 rfl tyX5 tyX5_ok nmX5 rfl (by decide) (by decide) (Nat.le_of_ble_eq_true rfl) rfl dX5_save_13 ?_
  refine v_aload_n X (pc := 16) dX5_save_16 rfl 0 rfl ?_
  refine v_get X (pc := 17) (v := .ref ((b 0) 0)) uw5 0 rfl rfl 0 (by decide) q_161 rfl rfl dX5_save_17 ?_
  obtain ⟨q20, e20, h⟩ := ob h
  refine v_callV X (pc := 20) (st1 := [.int q20]) (w' := (wHS x.g b 1 n0 q8 n2 ζ η δ χ)) [] [] (c_X4_peopleOfAllHalls x.l x.g (b 0) n0 e20) rfl rfl cw_X4_peopleOfAllHalls q_213 q_214 q_215 ⟨by decide, by decide⟩ 1 4 rfl rfl rfl (Fr.of [1, 2, 3, 4, 5, 6, 7, 8, 9, 10, 11, 12] rfl rfl rfl rfl rfl) rfl (Nat.le_of_ble_eq_true rfl) dX5_save_20 ?_
  replace h := oi h
  subst h
  exact v_iret X (pc := 23) F dX5_save_23
theorem cw_X5_save : CwB yX5_save cX5_save 1 (Option.some FieldType.int) 0 := ⟨q_211, q_14, by decide, by decide, by decide +kernel⟩
def f_X5_restore (hs : Int32) (n0 : Blk) (n1 : Blk) (n2 : Blk) (ζ : Row) (η : (Nat → Blk)) (δ : Row) (χ : Blk) : Option (Int32 × Blk × Row × (Nat → Blk)) :=
  (if hs = 0 then some ((-100004), n0, ζ, η) else (f_X2_keep ζ η n0).bind fun q18 => (f_X4_copyFrom n0 n1).bind fun q29 => (f_X4_peopleOfAllHalls q29).bind fun q36 => some (q36, q29, q18.1, q18.2))
set_option maxHeartbeats 4000000 in
set_option maxRecDepth 100000 in
theorem c_X5_restore (l : Launch) (g : Gl) (b : Nat → Nat → Nat) (hs : Int32) (n0 : Blk) (n1 : Blk) (n2 : Blk) (ζ : Row) (η : (Nat → Blk)) (δ : Row) (χ : Blk) {res : Int32 × Blk × Row × (Nat → Blk)} (h : f_X5_restore hs n0 n1 n2 ζ η δ χ = some res) : Ok l g yX5_restore cX5_restore 1 (Option.some FieldType.int) 5 112 [.ref (b 11 0)] (wHS g b hs n0 n1 n2 ζ η δ χ) (some (.int res.1)) (wHS g b hs res.2.1 n1 n2 res.2.2.1 res.2.2.2 δ χ) := by
  refine Ok.of RX5 (by decide) rfl (Nat.le_of_ble_eq_true rfl) (fun x hl hg X F => ?_)
  subst hg; subst hl
  rw [f_X5_restore] at h
  show V x (wHS x.g b hs n0 n1 n2 ζ η δ χ) [(0, .ref (b 11 0))] [] 0
  refine v_aload_n X (pc := 0) dX5_restore_0 rfl 0 rfl ?_
  refine v_get X (pc := 1) (v := .int hs) uw5 0 rfl rfl 6 (by decide) q_167 rfl rfl dX5_restore_1 ?_
  refine v_ifne X (pc := 4) (tgt := 10) dX5_restore_4 (by decide) (fun c => ?_) (fun c => ?_)
  · replace h := hn c h
    refine v_aload_n X (pc := 10) dX5_restore_10 rfl 0 rfl ?_
    refine v_get X (pc := 11) (v := .ref ((b 8) 0)) uw5 0 rfl rfl 3 (by decide) q_164 rfl rfl dX5_restore_11 ?_
    refine v_aload_n X (pc := 14) dX5_restore_14 rfl 0 rfl ?_
    refine v_get X (pc := 15) (v := .ref ((b 0) 0)) uw5 0 rfl rfl 0 (by decide) q_161 rfl rfl dX5_restore_15 ?_
    obtain ⟨q18, e18, h⟩ := ob h
    refine v_callV X (pc := 18) (st1 := []) (w' := (wHS x.g b hs n0 n1 n2 q18.1 q18.2 δ χ)) [.ref ((b 0) 0)] [] (c_X2_keep x.l x.g (b 8) (fun j => b (j + 3)) (b 0) ζ η n0 e18) rfl rfl cw_X2_keep q_228 q_229 q_230 ⟨by decide, by decide⟩ 37 2 rfl rfl rfl (Fr.of [37, 38, 39, 40, 41, 42, 43, 44, 45, 46, 47, 48, 49, 50, 51, 52, 53, 54, 55, 56, 57, 58, 59, 60, 61, 62, 63, 64, 65, 66, 67, 68, 69, 70, 71, 72, 73, 74, 75, 76, 77, 78, 79, 80, 81, 82, 83, 84, 85, 86, 87, 88, 89, 90, 91, 92, 93, 94, 95, 96, 97, 98, 1, 2, 3, 4, 5, 6, 7, 8, 9, 10, 11, 12] rfl rfl rfl rfl rfl) rfl (Nat.le_of_ble_eq_true rfl) dX5_restore_18 ?_
    refine v_aload_n X (pc := 21) dX5_restore_21 rfl 0 rfl ?_
    refine v_get X (pc := 22) (v := .ref ((b 0) 0)) uw5 0 rfl rfl 0 (by decide) q_161 rfl rfl dX5_restore_22 ?_
    refine v_aload_n X (pc := 25) dX5_restore_25 rfl 0 rfl ?_
    refine v_get X (pc := 26) (v := .ref ((b 1) 0)) uw5 0 rfl rfl 1 (by decide) q_162 rfl rfl dX5_restore_26 ?_
    obtain ⟨q29, e29, h⟩ := ob h
    refine v_callV X (pc := 29) (st1 := []) (w' := (wHS x.g b hs q29 n1 n2 q18.1 q18.2 δ χ)) [.ref ((b 1) 0)] [] (c_X4_copyFrom x.l x.g (b 0) (b 1) n0 n1 e29) rfl rfl cw_X4_copyFrom q_212 q_197 q_198 ⟨by decide, by decide⟩ 1 4 rfl rfl rfl (Fr.of [1, 2, 3, 4, 5, 6, 7, 8, 9, 10, 11, 12, 13, 14, 15, 16, 17, 18, 19, 20, 21, 22, 23, 24] rfl rfl rfl rfl rfl) rfl (Nat.le_of_ble_eq_true rfl) dX5_restore_29 ?_
    refine v_aload_n X (pc := 32) dX5_restore_32 rfl 0 rfl ?_
    refine v_get X (pc := 33) (v := .ref ((b 0) 0)) uw5 0 rfl rfl 0 (by decide) q_161 rfl rfl dX5_restore_33 ?_
    obtain ⟨q36, e36, h⟩ := ob h
    refine v_callV X (pc := 36) (st1 := [.int q36]) (w' := (wHS x.g b hs q29 n1 n2 q18.1 q18.2 δ χ)) [] [] (c_X4_peopleOfAllHalls x.l x.g (b 0) q29 e36) rfl rfl cw_X4_peopleOfAllHalls q_213 q_214 q_215 ⟨by decide, by decide⟩ 1 4 rfl rfl rfl (Fr.of [1, 2, 3, 4, 5, 6, 7, 8, 9, 10, 11, 12] rfl rfl rfl rfl rfl) rfl (Nat.le_of_ble_eq_true rfl) dX5_restore_36 ?_
    replace h := oi h
    subst h
    exact v_iret X (pc := 39) F dX5_restore_39
  · replace h := hp c h
    refine v_ldc X (pc := 7) (v := (-100004)) q_227 dX5_restore_7 ?_
    replace h := oi h
    subst h
    exact v_iret X (pc := 9) F dX5_restore_9
theorem cw_X5_restore : CwB yX5_restore cX5_restore 1 (Option.some FieldType.int) 0 := ⟨q_226, q_14, by decide, by decide, by decide +kernel⟩
def f_X5_hall (hs : Int32) (n0 : Blk) (n1 : Blk) (n2 : Blk) (ζ : Row) (η : (Nat → Blk)) (δ : Row) (χ : Blk) (x1 : Int32) (x2 : Int32) : Option (Int32 × Row) :=
  lt (f_X5_isHallWithRoom x1) fun q1 => (if q1 = true then (if x2 = 0 then (f_X5_at 6 (n0 1) x1).bind fun q56 => some (q56, δ) else (if x2 = 1 then (f_X5_at 6 (n0 2) x1).bind fun q68 => some (q68, δ) else (if x2 = 2 then (f_X4_toldByOwnSides n0 x1).bind fun q77 => some (q77, δ) else (if x2 = 3 then (f_X4_toldByFarSides n0 x1).bind fun q86 => some (q86, δ) else (if x2 = 4 then (f_X0_distanceOrNone δ n0 x1).bind fun q99 => some (q99.1, q99.2) else (if x2 = 5 then (f_X4_stilesOfHall n0 x1).bind fun q108 => some (q108, δ) else some ((-100002), δ))))))) else some ((-100001), δ))
set_option maxHeartbeats 4000000 in
set_option maxRecDepth 100000 in
theorem c_X5_hall (l : Launch) (g : Gl) (b : Nat → Nat → Nat) (hs : Int32) (n0 : Blk) (n1 : Blk) (n2 : Blk) (ζ : Row) (η : (Nat → Blk)) (δ : Row) (χ : Blk) (x1 : Int32) (x2 : Int32) {res : Int32 × Row} (h : f_X5_hall hs n0 n1 n2 ζ η δ χ x1 x2 = some res) : Ok l g yX5_hall cX5_hall 3 (Option.some FieldType.int) 7 161 [.ref (b 11 0), .int x1, .int x2] (wHS g b hs n0 n1 n2 ζ η δ χ) (some (.int res.1)) (wHS g b hs n0 n1 n2 ζ η res.2 χ) := by
  refine Ok.of RX5 (by decide) rfl (Nat.le_of_ble_eq_true rfl) (fun x hl hg X F => ?_)
  subst hg; subst hl
  rw [f_X5_hall] at h
  show V x (wHS x.g b hs n0 n1 n2 ζ η δ χ) [(0, .ref (b 11 0)), (1, .int x1), (2, .int x2)] [] 0
  refine v_iload_n X (pc := 0) dX5_hall_0 rfl 1 rfl ?_
  obtain ⟨q1, e1, h⟩ := lts h
  refine v_callS X (pc := 1) (st1 := [.int (b2i q1)]) (w' := (wHS x.g b hs n0 n1 n2 ζ η δ χ)) [.int x1] [] (c_X5_isHallWithRoom x.l x.g  x1 e1) rfl rfl cw_X5_isHallWithRoom q_340 q_341 ⟨by decide, by decide⟩ Fr.nil rfl (Nat.le_of_ble_eq_true rfl) dX5_hall_1 ?_
  refine v_ifneB X (pc := 4) (tgt := 10) dX5_hall_4 (by decide) (fun c => ?_) (fun c => ?_)
  · replace h := hp c h
    refine v_iload_n X (pc := 10) dX5_hall_10 rfl 2 rfl ?_
    by_cases t0 : x2 = 0
    · replace h := hp t0 h
      refine v_tswIn X (pc := 11) (tgt := 48) (off := 37) dX5_hall_11 (by rw [t0]; decide) (by rw [t0]; decide) (by rw [t0]; decide) (by decide) ?_
      refine v_aload_n X (pc := 48) dX5_hall_48 rfl 0 rfl ?_
      refine v_get X (pc := 49) (v := .ref ((b 0) 0)) uw5 0 rfl rfl 0 (by decide) q_161 rfl rfl dX5_hall_49 ?_
      refine v_getN X (pc := 52) (v := .ref ((b 0) 1)) uw4 1 rfl rfl 0 (by decide) k_4 rfl rfl dX5_hall_52 ?_
      refine v_iload_n X (pc := 55) dX5_hall_55 rfl 1 rfl ?_
      obtain ⟨q56, e56, h⟩ := ob h
      refine v_callS X (pc := 56) (st1 := [.int q56]) (w' := (wHS x.g b hs n0 n1 n2 ζ η δ χ)) [.ref ((b 0) 1), .int x1] [] (c_X5_at x.l x.g ((b 0) 1) 6 (n0 1) x1 e56) rfl rfl cw_X5_at q_241 q_221 ⟨by decide, by decide⟩ (Fr.of [2] rfl rfl rfl rfl rfl) rfl (Nat.le_of_ble_eq_true rfl) dX5_hall_56 ?_
      replace h := oi h
      subst h
      exact v_iret X (pc := 59) F dX5_hall_59
    · replace h := hn t0 h
      by_cases t1 : x2 = 1
      · replace h := hp t1 h
        refine v_tswIn X (pc := 11) (tgt := 60) (off := 49) dX5_hall_11 (by rw [t1]; decide) (by rw [t1]; decide) (by rw [t1]; decide) (by decide) ?_
        refine v_aload_n X (pc := 60) dX5_hall_60 rfl 0 rfl ?_
        refine v_get X (pc := 61) (v := .ref ((b 0) 0)) uw5 0 rfl rfl 0 (by decide) q_161 rfl rfl dX5_hall_61 ?_
        refine v_getN X (pc := 64) (v := .ref ((b 0) 2)) uw4 1 rfl rfl 1 (by decide) k_5 rfl rfl dX5_hall_64 ?_
        refine v_iload_n X (pc := 67) dX5_hall_67 rfl 1 rfl ?_
        obtain ⟨q68, e68, h⟩ := ob h
        refine v_callS X (pc := 68) (st1 := [.int q68]) (w' := (wHS x.g b hs n0 n1 n2 ζ η δ χ)) [.ref ((b 0) 2), .int x1] [] (c_X5_at x.l x.g ((b 0) 2) 6 (n0 2) x1 e68) rfl rfl cw_X5_at q_241 q_221 ⟨by decide, by decide⟩ (Fr.of [3] rfl rfl rfl rfl rfl) rfl (Nat.le_of_ble_eq_true rfl) dX5_hall_68 ?_
        replace h := oi h
        subst h
        exact v_iret X (pc := 71) F dX5_hall_71
      · replace h := hn t1 h
        by_cases t2 : x2 = 2
        · replace h := hp t2 h
          refine v_tswIn X (pc := 11) (tgt := 72) (off := 61) dX5_hall_11 (by rw [t2]; decide) (by rw [t2]; decide) (by rw [t2]; decide) (by decide) ?_
          refine v_aload_n X (pc := 72) dX5_hall_72 rfl 0 rfl ?_
          refine v_get X (pc := 73) (v := .ref ((b 0) 0)) uw5 0 rfl rfl 0 (by decide) q_161 rfl rfl dX5_hall_73 ?_
          refine v_iload_n X (pc := 76) dX5_hall_76 rfl 1 rfl ?_
          obtain ⟨q77, e77, h⟩ := ob h
          refine v_callV X (pc := 77) (st1 := [.int q77]) (w' := (wHS x.g b hs n0 n1 n2 ζ η δ χ)) [.int x1] [] (c_X4_toldByOwnSides x.l x.g (b 0) n0 x1 e77) rfl rfl cw_X4_toldByOwnSides q_509 q_275 q_276 ⟨by decide, by decide⟩ 1 4 rfl rfl rfl (Fr.of [1, 2, 3, 4, 5, 6, 7, 8, 9, 10, 11, 12] rfl rfl rfl rfl rfl) rfl (Nat.le_of_ble_eq_true rfl) dX5_hall_77 ?_
          replace h := oi h
          subst h
          exact v_iret X (pc := 80) F dX5_hall_80
        · replace h := hn t2 h
          by_cases t3 : x2 = 3
          · replace h := hp t3 h
            refine v_tswIn X (pc := 11) (tgt := 81) (off := 70) dX5_hall_11 (by rw [t3]; decide) (by rw [t3]; decide) (by rw [t3]; decide) (by decide) ?_
            refine v_aload_n X (pc := 81) dX5_hall_81 rfl 0 rfl ?_
            refine v_get X (pc := 82) (v := .ref ((b 0) 0)) uw5 0 rfl rfl 0 (by decide) q_161 rfl rfl dX5_hall_82 ?_
            refine v_iload_n X (pc := 85) dX5_hall_85 rfl 1 rfl ?_
            obtain ⟨q86, e86, h⟩ := ob h
            refine v_callV X (pc := 86) (st1 := [.int q86]) (w' := (wHS x.g b hs n0 n1 n2 ζ η δ χ)) [.int x1] [] (c_X4_toldByFarSides x.l x.g (b 0) n0 x1 e86) rfl rfl cw_X4_toldByFarSides q_510 q_292 q_293 ⟨by decide, by decide⟩ 1 4 rfl rfl rfl (Fr.of [1, 2, 3, 4, 5, 6, 7, 8, 9, 10, 11, 12] rfl rfl rfl rfl rfl) rfl (Nat.le_of_ble_eq_true rfl) dX5_hall_86 ?_
            replace h := oi h
            subst h
            exact v_iret X (pc := 89) F dX5_hall_89
          · replace h := hn t3 h
            by_cases t4 : x2 = 4
            · replace h := hp t4 h
              refine v_tswIn X (pc := 11) (tgt := 90) (off := 79) dX5_hall_11 (by rw [t4]; decide) (by rw [t4]; decide) (by rw [t4]; decide) (by decide) ?_
              refine v_aload_n X (pc := 90) dX5_hall_90 rfl 0 rfl ?_
              refine v_get X (pc := 91) (v := .ref ((b 9) 0)) uw5 0 rfl rfl 4 (by decide) q_165 rfl rfl dX5_hall_91 ?_
              refine v_aload_n X (pc := 94) dX5_hall_94 rfl 0 rfl ?_
              refine v_get X (pc := 95) (v := .ref ((b 0) 0)) uw5 0 rfl rfl 0 (by decide) q_161 rfl rfl dX5_hall_95 ?_
              refine v_iload_n X (pc := 98) dX5_hall_98 rfl 1 rfl ?_
              obtain ⟨q99, e99, h⟩ := ob h
              refine v_callV X (pc := 99) (st1 := [.int q99.1]) (w' := (wHS x.g b hs n0 n1 n2 ζ η q99.2 χ)) [.ref ((b 0) 0), .int x1] [] (c_X0_distanceOrNone x.l x.g (b 9) (b 0) δ n0 x1 e99) rfl rfl cw_X0_distanceOrNone q_511 q_512 q_513 ⟨by decide, by decide⟩ 99 0 rfl rfl rfl (Fr.of [99, 100, 1, 2, 3, 4, 5, 6, 7, 8, 9, 10, 11, 12] rfl rfl rfl rfl rfl) rfl (Nat.le_of_ble_eq_true rfl) dX5_hall_99 ?_
              replace h := oi h
              subst h
              exact v_iret X (pc := 102) F dX5_hall_102
            · replace h := hn t4 h
              by_cases t5 : x2 = 5
              · replace h := hp t5 h
                refine v_tswIn X (pc := 11) (tgt := 103) (off := 92) dX5_hall_11 (by rw [t5]; decide) (by rw [t5]; decide) (by rw [t5]; decide) (by decide) ?_
                refine v_aload_n X (pc := 103) dX5_hall_103 rfl 0 rfl ?_
                refine v_get X (pc := 104) (v := .ref ((b 0) 0)) uw5 0 rfl rfl 0 (by decide) q_161 rfl rfl dX5_hall_104 ?_
                refine v_iload_n X (pc := 107) dX5_hall_107 rfl 1 rfl ?_
                obtain ⟨q108, e108, h⟩ := ob h
                refine v_callV X (pc := 108) (st1 := [.int q108]) (w' := (wHS x.g b hs n0 n1 n2 ζ η δ χ)) [.int x1] [] (c_X4_stilesOfHall x.l x.g (b 0) n0 x1 e108) rfl rfl cw_X4_stilesOfHall q_516 q_517 q_518 ⟨by decide, by decide⟩ 1 4 rfl rfl rfl (Fr.of [1, 2, 3, 4, 5, 6, 7, 8, 9, 10, 11, 12] rfl rfl rfl rfl rfl) rfl (Nat.le_of_ble_eq_true rfl) dX5_hall_108 ?_
                replace h := oi h
                subst h
                exact v_iret X (pc := 111) F dX5_hall_111
              · replace h := hn t5 h
                have u0 : ¬ Int32.toInt x2 = 0 := fun e => t0 ((Int32.toInt_inj (y := 0)).mp e)
                have u1 : ¬ Int32.toInt x2 = 1 := fun e => t1 ((Int32.toInt_inj (y := 1)).mp e)
                have u2 : ¬ Int32.toInt x2 = 2 := fun e => t2 ((Int32.toInt_inj (y := 2)).mp e)
                have u3 : ¬ Int32.toInt x2 = 3 := fun e => t3 ((Int32.toInt_inj (y := 3)).mp e)
                have u4 : ¬ Int32.toInt x2 = 4 := fun e => t4 ((Int32.toInt_inj (y := 4)).mp e)
                have u5 : ¬ Int32.toInt x2 = 5 := fun e => t5 ((Int32.toInt_inj (y := 5)).mp e)
                refine v_tswOut X (pc := 11) (tgt := 112) dX5_hall_11 (by omega) (by decide) ?_
                refine v_ldc X (pc := 112) (v := (-100002)) q_257 dX5_hall_112 ?_
                replace h := oi h
                subst h
                exact v_iret X (pc := 114) F dX5_hall_114
  · replace h := hn (nbt c) h
    refine v_ldc X (pc := 7) (v := (-100001)) q_240 dX5_hall_7 ?_
    replace h := oi h
    subst h
    exact v_iret X (pc := 9) F dX5_hall_9
theorem cw_X5_hall : CwB yX5_hall cX5_hall 3 (Option.some FieldType.int) 2 := ⟨q_508, q_14, by decide, by decide, by decide +kernel⟩
def f_X5_stileOf (hs : Int32) (n0 : Blk) (n1 : Blk) (n2 : Blk) (ζ : Row) (η : (Nat → Blk)) (δ : Row) (χ : Blk) (x1 : Int32) (x2 : Int32) : Option (Int32) :=
  lt (f_X4_hasStile n0 x1) fun q5 => (if q5 = true then (if x2 = 0 then (f_X5_at 12 (n0 3) x1).bind fun q56 => some q56 else (if x2 = 1 then (f_X5_at 12 (n0 4) x1).bind fun q68 => some q68 else (if x2 = 2 then (f_X5_at 12 (n0 5) x1).bind fun q80 => some q80 else (if x2 = 3 then (f_X5_at 12 (n0 6) x1).bind fun q92 => some q92 else (if x2 = 4 then (f_X1_gapOf n0 x1).bind fun q104 => some q104 else some (-100002)))))) else some (-100001))
set_option maxHeartbeats 4000000 in
set_option maxRecDepth 100000 in
theorem c_X5_stileOf (l : Launch) (g : Gl) (b : Nat → Nat → Nat) (hs : Int32) (n0 : Blk) (n1 : Blk) (n2 : Blk) (ζ : Row) (η : (Nat → Blk)) (δ : Row) (χ : Blk) (x1 : Int32) (x2 : Int32) {res : Int32} (h : f_X5_stileOf hs n0 n1 n2 ζ η δ χ x1 x2 = some res) : Ok l g yX5_stileOf cX5_stileOf 3 (Option.some FieldType.int) 3 66 [.ref (b 11 0), .int x1, .int x2] (wHS g b hs n0 n1 n2 ζ η δ χ) (some (.int res)) (wHS g b hs n0 n1 n2 ζ η δ χ) := by
  refine Ok.of RX5 (by decide) rfl (Nat.le_of_ble_eq_true rfl) (fun x hl hg X F => ?_)
  subst hg; subst hl
  rw [f_X5_stileOf] at h
  show V x (wHS x.g b hs n0 n1 n2 ζ η δ χ) [(0, .ref (b 11 0)), (1, .int x1), (2, .int x2)] [] 0
  refine v_aload_n X (pc := 0) dX5_stileOf_0 rfl 0 rfl ?_
  refine v_get X (pc := 1) (v := .ref ((b 0) 0)) uw5 0 rfl rfl 0 (by decide) q_161 rfl rfl dX5_stileOf_1 ?_
  refine v_iload_n X (pc := 4) dX5_stileOf_4 rfl 1 rfl ?_
  obtain ⟨q5, e5, h⟩ := lts h
  refine v_callV X (pc := 5) (st1 := [.int (b2i q5)]) (w' := (wHS x.g b hs n0 n1 n2 ζ η δ χ)) [.int x1] [] (c_X4_hasStile x.l x.g (b 0) n0 x1 e5) rfl rfl cw_X4_hasStile q_236 q_237 q_238 ⟨by decide, by decide⟩ 1 4 rfl rfl rfl (Fr.of [1, 2, 3, 4, 5, 6, 7, 8, 9, 10, 11, 12] rfl rfl rfl rfl rfl) rfl (Nat.le_of_ble_eq_true rfl) dX5_stileOf_5 ?_
  refine v_ifneB X (pc := 8) (tgt := 14) dX5_stileOf_8 (by decide) (fun c => ?_) (fun c => ?_)
  · replace h := hp c h
    refine v_iload_n X (pc := 14) dX5_stileOf_14 rfl 2 rfl ?_
    by_cases t0 : x2 = 0
    · replace h := hp t0 h
      refine v_tswIn X (pc := 15) (tgt := 48) (off := 33) dX5_stileOf_15 (by rw [t0]; decide) (by rw [t0]; decide) (by rw [t0]; decide) (by decide) ?_
      refine v_aload_n X (pc := 48) dX5_stileOf_48 rfl 0 rfl ?_
      refine v_get X (pc := 49) (v := .ref ((b 0) 0)) uw5 0 rfl rfl 0 (by decide) q_161 rfl rfl dX5_stileOf_49 ?_
      refine v_getN X (pc := 52) (v := .ref ((b 0) 3)) uw4 1 rfl rfl 2 (by decide) k_6 rfl rfl dX5_stileOf_52 ?_
      refine v_iload_n X (pc := 55) dX5_stileOf_55 rfl 1 rfl ?_
      obtain ⟨q56, e56, h⟩ := ob h
      refine v_callS X (pc := 56) (st1 := [.int q56]) (w' := (wHS x.g b hs n0 n1 n2 ζ η δ χ)) [.ref ((b 0) 3), .int x1] [] (c_X5_at x.l x.g ((b 0) 3) 12 (n0 3) x1 e56) rfl rfl cw_X5_at q_241 q_221 ⟨by decide, by decide⟩ (Fr.of [4] rfl rfl rfl rfl rfl) rfl (Nat.le_of_ble_eq_true rfl) dX5_stileOf_56 ?_
      replace h := oi h
      subst h
      exact v_iret X (pc := 59) F dX5_stileOf_59
    · replace h := hn t0 h
      by_cases t1 : x2 = 1
      · replace h := hp t1 h
        refine v_tswIn X (pc := 15) (tgt := 60) (off := 45) dX5_stileOf_15 (by rw [t1]; decide) (by rw [t1]; decide) (by rw [t1]; decide) (by decide) ?_
        refine v_aload_n X (pc := 60) dX5_stileOf_60 rfl 0 rfl ?_
        refine v_get X (pc := 61) (v := .ref ((b 0) 0)) uw5 0 rfl rfl 0 (by decide) q_161 rfl rfl dX5_stileOf_61 ?_
        refine v_getN X (pc := 64) (v := .ref ((b 0) 4)) uw4 1 rfl rfl 3 (by decide) k_7 rfl rfl dX5_stileOf_64 ?_
        refine v_iload_n X (pc := 67) dX5_stileOf_67 rfl 1 rfl ?_
        obtain ⟨q68, e68, h⟩ := ob h
        refine v_callS X (pc := 68) (st1 := [.int q68]) (w' := (wHS x.g b hs n0 n1 n2 ζ η δ χ)) [.ref ((b 0) 4), .int x1] [] (c_X5_at x.l x.g ((b 0) 4) 12 (n0 4) x1 e68) rfl rfl cw_X5_at q_241 q_221 ⟨by decide, by decide⟩ (Fr.of [5] rfl rfl rfl rfl rfl) rfl (Nat.le_of_ble_eq_true rfl) dX5_stileOf_68 ?_
        replace h := oi h
        subst h
        exact v_iret X (pc := 71) F dX5_stileOf_71
      · replace h := hn t1 h
        by_cases t2 : x2 = 2
        · replace h := hp t2 h
          refine v_tswIn X (pc := 15) (tgt := 72) (off := 57) dX5_stileOf_15 (by rw [t2]; decide) (by rw [t2]; decide) (by rw [t2]; decide) (by decide) ?_
          refine v_aload_n X (pc := 72) dX5_stileOf_72 rfl 0 rfl ?_
          refine v_get X (pc := 73) (v := .ref ((b 0) 0)) uw5 0 rfl rfl 0 (by decide) q_161 rfl rfl dX5_stileOf_73 ?_
          refine v_getN X (pc := 76) (v := .ref ((b 0) 5)) uw4 1 rfl rfl 4 (by decide) k_8 rfl rfl dX5_stileOf_76 ?_
          refine v_iload_n X (pc := 79) dX5_stileOf_79 rfl 1 rfl ?_
          obtain ⟨q80, e80, h⟩ := ob h
          refine v_callS X (pc := 80) (st1 := [.int q80]) (w' := (wHS x.g b hs n0 n1 n2 ζ η δ χ)) [.ref ((b 0) 5), .int x1] [] (c_X5_at x.l x.g ((b 0) 5) 12 (n0 5) x1 e80) rfl rfl cw_X5_at q_241 q_221 ⟨by decide, by decide⟩ (Fr.of [6] rfl rfl rfl rfl rfl) rfl (Nat.le_of_ble_eq_true rfl) dX5_stileOf_80 ?_
          replace h := oi h
          subst h
          exact v_iret X (pc := 83) F dX5_stileOf_83
        · replace h := hn t2 h
          by_cases t3 : x2 = 3
          · replace h := hp t3 h
            refine v_tswIn X (pc := 15) (tgt := 84) (off := 69) dX5_stileOf_15 (by rw [t3]; decide) (by rw [t3]; decide) (by rw [t3]; decide) (by decide) ?_
            refine v_aload_n X (pc := 84) dX5_stileOf_84 rfl 0 rfl ?_
            refine v_get X (pc := 85) (v := .ref ((b 0) 0)) uw5 0 rfl rfl 0 (by decide) q_161 rfl rfl dX5_stileOf_85 ?_
            refine v_getN X (pc := 88) (v := .ref ((b 0) 6)) uw4 1 rfl rfl 5 (by decide) k_9 rfl rfl dX5_stileOf_88 ?_
            refine v_iload_n X (pc := 91) dX5_stileOf_91 rfl 1 rfl ?_
            obtain ⟨q92, e92, h⟩ := ob h
            refine v_callS X (pc := 92) (st1 := [.int q92]) (w' := (wHS x.g b hs n0 n1 n2 ζ η δ χ)) [.ref ((b 0) 6), .int x1] [] (c_X5_at x.l x.g ((b 0) 6) 12 (n0 6) x1 e92) rfl rfl cw_X5_at q_241 q_221 ⟨by decide, by decide⟩ (Fr.of [7] rfl rfl rfl rfl rfl) rfl (Nat.le_of_ble_eq_true rfl) dX5_stileOf_92 ?_
            replace h := oi h
            subst h
            exact v_iret X (pc := 95) F dX5_stileOf_95
          · replace h := hn t3 h
            by_cases t4 : x2 = 4
            · replace h := hp t4 h
              refine v_tswIn X (pc := 15) (tgt := 96) (off := 81) dX5_stileOf_15 (by rw [t4]; decide) (by rw [t4]; decide) (by rw [t4]; decide) (by decide) ?_
              refine v_aload_n X (pc := 96) dX5_stileOf_96 rfl 0 rfl ?_
              refine v_get X (pc := 97) (v := .ref ((b 0) 0)) uw5 0 rfl rfl 0 (by decide) q_161 rfl rfl dX5_stileOf_97 ?_
              refine v_getN X (pc := 100) (v := .ref ((b 0) 11)) uw4 1 rfl rfl 6 (by decide) k_10 rfl rfl dX5_stileOf_100 ?_
              refine v_iload_n X (pc := 103) dX5_stileOf_103 rfl 1 rfl ?_
              obtain ⟨q104, e104, h⟩ := ob h
              refine v_callV X (pc := 104) (st1 := [.int q104]) (w' := (wHS x.g b hs n0 n1 n2 ζ η δ χ)) [.int x1] [] (c_X1_gapOf x.l x.g (b 0) n0 x1 e104) rfl rfl cw_X1_gapOf q_242 q_243 q_244 ⟨by decide, by decide⟩ 12 1 rfl rfl rfl (Fr.of [1, 2, 3, 4, 5, 6, 7, 8, 9, 10, 11, 12] rfl rfl rfl rfl rfl) rfl (Nat.le_of_ble_eq_true rfl) dX5_stileOf_104 ?_
              replace h := oi h
              subst h
              exact v_iret X (pc := 107) F dX5_stileOf_107
            · replace h := hn t4 h
              have u0 : ¬ Int32.toInt x2 = 0 := fun e => t0 ((Int32.toInt_inj (y := 0)).mp e)
              have u1 : ¬ Int32.toInt x2 = 1 := fun e => t1 ((Int32.toInt_inj (y := 1)).mp e)
              have u2 : ¬ Int32.toInt x2 = 2 := fun e => t2 ((Int32.toInt_inj (y := 2)).mp e)
              have u3 : ¬ Int32.toInt x2 = 3 := fun e => t3 ((Int32.toInt_inj (y := 3)).mp e)
              have u4 : ¬ Int32.toInt x2 = 4 := fun e => t4 ((Int32.toInt_inj (y := 4)).mp e)
              refine v_tswOut X (pc := 15) (tgt := 108) dX5_stileOf_15 (by omega) (by decide) ?_
              refine v_ldc X (pc := 108) (v := (-100002)) q_257 dX5_stileOf_108 ?_
              replace h := oi h
              subst h
              exact v_iret X (pc := 110) F dX5_stileOf_110
  · replace h := hn (nbt c) h
    refine v_ldc X (pc := 11) (v := (-100001)) q_240 dX5_stileOf_11 ?_
    replace h := oi h
    subst h
    exact v_iret X (pc := 13) F dX5_stileOf_13
theorem cw_X5_stileOf : CwB yX5_stileOf cX5_stileOf 3 (Option.some FieldType.int) 2 := ⟨q_235, q_14, by decide, by decide, by decide +kernel⟩
def f_X5_counter (hs : Int32) (n0 : Blk) (n1 : Blk) (n2 : Blk) (ζ : Row) (η : (Nat → Blk)) (δ : Row) (χ : Blk) (x1 : Int32) (x2 : Int32) (x3 : Int32) : Option (Int32) :=
  lt (f_X4_hasStile n0 x1) fun q5 => (if q5 = true then lt (f_X5_isCounter x2) fun q15 => (if q15 = true then lt (f_X5_counterIndex x1 x2) fun q26 => (if x3 = 0 then (f_X5_at 48 (n0 7) q26).bind fun q72 => some q72 else (if x3 = 1 then (f_X5_at 48 (n0 8) q26).bind fun q88 => some q88 else (if x3 = 2 then (f_X5_at 48 (n0 10) q26).bind fun q104 => some q104 else some (-100002)))) else some (-100002)) else some (-100001))
set_option maxHeartbeats 4000000 in
set_option maxRecDepth 100000 in
theorem c_X5_counter (l : Launch) (g : Gl) (b : Nat → Nat → Nat) (hs : Int32) (n0 : Blk) (n1 : Blk) (n2 : Blk) (ζ : Row) (η : (Nat → Blk)) (δ : Row) (χ : Blk) (x1 : Int32) (x2 : Int32) (x3 : Int32) {res : Int32} (h : f_X5_counter hs n0 n1 n2 ζ η δ χ x1 x2 x3 = some res) : Ok l g yX5_counter cX5_counter 5 (Option.some FieldType.int) 1 21 [.ref (b 11 0), .int x1, .int x2, .int x3] (wHS g b hs n0 n1 n2 ζ η δ χ) (some (.int res)) (wHS g b hs n0 n1 n2 ζ η δ χ) := by
  refine Ok.of RX5 (by decide) rfl (Nat.le_of_ble_eq_true rfl) (fun x hl hg X F => ?_)
  subst hg; subst hl
  rw [f_X5_counter] at h
  show V x (wHS x.g b hs n0 n1 n2 ζ η δ χ) [(0, .ref (b 11 0)), (1, .int x1), (2, .int x2), (3, .int x3)] [] 0
  refine v_aload_n X (pc := 0) dX5_counter_0 rfl 0 rfl ?_
  refine v_get X (pc := 1) (v := .ref ((b 0) 0)) uw5 0 rfl rfl 0 (by decide) q_161 rfl rfl dX5_counter_1 ?_
  refine v_iload_n X (pc := 4) dX5_counter_4 rfl 1 rfl ?_
  obtain ⟨q5, e5, h⟩ := lts h
  refine v_callV X (pc := 5) (st1 := [.int (b2i q5)]) (w' := (wHS x.g b hs n0 n1 n2 ζ η δ χ)) [.int x1] [] (c_X4_hasStile x.l x.g (b 0) n0 x1 e5) rfl rfl cw_X4_hasStile q_236 q_237 q_238 ⟨by decide, by decide⟩ 1 4 rfl rfl rfl (Fr.of [1, 2, 3, 4, 5, 6, 7, 8, 9, 10, 11, 12] rfl rfl rfl rfl rfl) rfl (Nat.le_of_ble_eq_true rfl) dX5_counter_5 ?_
  refine v_ifneB X (pc := 8) (tgt := 14) dX5_counter_8 (by decide) (fun c => ?_) (fun c => ?_)
  · replace h := hp c h
    refine v_iload_n X (pc := 14) dX5_counter_14 rfl 2 rfl ?_
    obtain ⟨q15, e15, h⟩ := lts h
    refine v_callS X (pc := 15) (st1 := [.int (b2i q15)]) (w' := (wHS x.g b hs n0 n1 n2 ζ η δ χ)) [.int x2] [] (c_X5_isCounter x.l x.g  x2 e15) rfl rfl cw_X5_isCounter q_347 q_348 ⟨by decide, by decide⟩ Fr.nil rfl (Nat.le_of_ble_eq_true rfl) dX5_counter_15 ?_
    refine v_ifneB X (pc := 18) (tgt := 24) dX5_counter_18 (by decide) (fun c => ?_) (fun c => ?_)
    · replace h := hp c h
      refine v_iload_n X (pc := 24) dX5_counter_24 rfl 1 rfl ?_
      refine v_iload_n X (pc := 25) dX5_counter_25 rfl 2 rfl ?_
      obtain ⟨q26, e26, h⟩ := lts h
      refine v_callS X (pc := 26) (st1 := [.int q26]) (w' := (wHS x.g b hs n0 n1 n2 ζ η δ χ)) [.int x1, .int x2] [] (c_X5_counterIndex x.l x.g  x1 x2 e26) rfl rfl cw_X5_counterIndex q_353 q_251 ⟨by decide, by decide⟩ Fr.nil rfl (Nat.le_of_ble_eq_true rfl) dX5_counter_26 ?_
      refine v_istore X (pc := 29) (L2 := [(4, .int q26), (0, .ref (b 11 0)), (1, .int x1), (2, .int x2), (3, .int x3)]) dX5_counter_29 (by decide) rfl ?_
      refine v_iload_n X (pc := 31) dX5_counter_31 rfl 4 rfl ?_
      by_cases t0 : x3 = 0
      · replace h := hp t0 h
        refine v_tswIn X (pc := 32) (tgt := 60) (off := 28) dX5_counter_32 (by rw [t0]; decide) (by rw [t0]; decide) (by rw [t0]; decide) (by decide) ?_
        refine v_aload_n X (pc := 60) dX5_counter_60 rfl 1 rfl ?_
        refine v_get X (pc := 61) (v := .ref ((b 0) 0)) uw5 0 rfl rfl 0 (by decide) q_161 rfl rfl dX5_counter_61 ?_
        refine v_getN X (pc := 64) (v := .ref ((b 0) 11)) uw4 1 rfl rfl 6 (by decide) k_10 rfl rfl dX5_counter_64 ?_
        refine v_getN X (pc := 67) (v := .ref ((b 0) 7)) uw1 12 rfl rfl 0 (by decide) k_1 rfl rfl dX5_counter_67 ?_
        refine v_iload X (pc := 70) dX5_counter_70 0 rfl ?_
        obtain ⟨q72, e72, h⟩ := ob h
        refine v_callS X (pc := 72) (st1 := [.int q72]) (w' := (wHS x.g b hs n0 n1 n2 ζ η δ χ)) [.ref ((b 0) 7), .int q26] [] (c_X5_at x.l x.g ((b 0) 7) 48 (n0 7) q26 e72) rfl rfl cw_X5_at q_241 q_221 ⟨by decide, by decide⟩ (Fr.of [8] rfl rfl rfl rfl rfl) rfl (Nat.le_of_ble_eq_true rfl) dX5_counter_72 ?_
        replace h := oi h
        subst h
        exact v_iret X (pc := 75) F dX5_counter_75
      · replace h := hn t0 h
        by_cases t1 : x3 = 1
        · replace h := hp t1 h
          refine v_tswIn X (pc := 32) (tgt := 76) (off := 44) dX5_counter_32 (by rw [t1]; decide) (by rw [t1]; decide) (by rw [t1]; decide) (by decide) ?_
          refine v_aload_n X (pc := 76) dX5_counter_76 rfl 1 rfl ?_
          refine v_get X (pc := 77) (v := .ref ((b 0) 0)) uw5 0 rfl rfl 0 (by decide) q_161 rfl rfl dX5_counter_77 ?_
          refine v_getN X (pc := 80) (v := .ref ((b 0) 11)) uw4 1 rfl rfl 6 (by decide) k_10 rfl rfl dX5_counter_80 ?_
          refine v_getN X (pc := 83) (v := .ref ((b 0) 8)) uw1 12 rfl rfl 1 (by decide) k_2 rfl rfl dX5_counter_83 ?_
          refine v_iload X (pc := 86) dX5_counter_86 0 rfl ?_
          obtain ⟨q88, e88, h⟩ := ob h
          refine v_callS X (pc := 88) (st1 := [.int q88]) (w' := (wHS x.g b hs n0 n1 n2 ζ η δ χ)) [.ref ((b 0) 8), .int q26] [] (c_X5_at x.l x.g ((b 0) 8) 48 (n0 8) q26 e88) rfl rfl cw_X5_at q_241 q_221 ⟨by decide, by decide⟩ (Fr.of [9] rfl rfl rfl rfl rfl) rfl (Nat.le_of_ble_eq_true rfl) dX5_counter_88 ?_
          replace h := oi h
          subst h
          exact v_iret X (pc := 91) F dX5_counter_91
        · replace h := hn t1 h
          by_cases t2 : x3 = 2
          · replace h := hp t2 h
            refine v_tswIn X (pc := 32) (tgt := 92) (off := 60) dX5_counter_32 (by rw [t2]; decide) (by rw [t2]; decide) (by rw [t2]; decide) (by decide) ?_
            refine v_aload_n X (pc := 92) dX5_counter_92 rfl 1 rfl ?_
            refine v_get X (pc := 93) (v := .ref ((b 0) 0)) uw5 0 rfl rfl 0 (by decide) q_161 rfl rfl dX5_counter_93 ?_
            refine v_getN X (pc := 96) (v := .ref ((b 0) 11)) uw4 1 rfl rfl 6 (by decide) k_10 rfl rfl dX5_counter_96 ?_
            refine v_getN X (pc := 99) (v := .ref ((b 0) 10)) uw1 12 rfl rfl 3 (by decide) k_3 rfl rfl dX5_counter_99 ?_
            refine v_iload X (pc := 102) dX5_counter_102 0 rfl ?_
            obtain ⟨q104, e104, h⟩ := ob h
            refine v_callS X (pc := 104) (st1 := [.int q104]) (w' := (wHS x.g b hs n0 n1 n2 ζ η δ χ)) [.ref ((b 0) 10), .int q26] [] (c_X5_at x.l x.g ((b 0) 10) 48 (n0 10) q26 e104) rfl rfl cw_X5_at q_241 q_221 ⟨by decide, by decide⟩ (Fr.of [11] rfl rfl rfl rfl rfl) rfl (Nat.le_of_ble_eq_true rfl) dX5_counter_104 ?_
            replace h := oi h
            subst h
            exact v_iret X (pc := 107) F dX5_counter_107
          · replace h := hn t2 h
            have u0 : ¬ Int32.toInt x3 = 0 := fun e => t0 ((Int32.toInt_inj (y := 0)).mp e)
            have u1 : ¬ Int32.toInt x3 = 1 := fun e => t1 ((Int32.toInt_inj (y := 1)).mp e)
            have u2 : ¬ Int32.toInt x3 = 2 := fun e => t2 ((Int32.toInt_inj (y := 2)).mp e)
            refine v_tswOut X (pc := 32) (tgt := 108) dX5_counter_32 (by omega) (by decide) ?_
            refine v_ldc X (pc := 108) (v := (-100002)) q_257 dX5_counter_108 ?_
            replace h := oi h
            subst h
            exact v_iret X (pc := 110) F dX5_counter_110
    · replace h := hn (nbt c) h
      refine v_ldc X (pc := 21) (v := (-100002)) q_257 dX5_counter_21 ?_
      replace h := oi h
      subst h
      exact v_iret X (pc := 23) F dX5_counter_23
  · replace h := hn (nbt c) h
    refine v_ldc X (pc := 11) (v := (-100001)) q_240 dX5_counter_11 ?_
    replace h := oi h
    subst h
    exact v_iret X (pc := 13) F dX5_counter_13
theorem cw_X5_counter : CwB yX5_counter cX5_counter 5 (Option.some FieldType.int) 3 := ⟨q_523, q_14, by decide, by decide, by decide +kernel⟩
def f_X5_reason (hs : Int32) (n0 : Blk) (n1 : Blk) (n2 : Blk) (ζ : Row) (η : (Nat → Blk)) (δ : Row) (χ : Blk) (x1 : Int32) (x2 : Bool) (x3 : Int32) : Option (Int32) :=
  lt (f_X4_hasStile n0 x1) fun q5 => (if q5 = true then lt (f_X5_isManyPeople x3) fun q15 => (if q15 = true then (f_X4_whyNot n0 x1 x2 x3).bind fun q31 => some q31 else some (-100002)) else some (-100001))
set_option maxHeartbeats 4000000 in
set_option maxRecDepth 100000 in
theorem c_X5_reason (l : Launch) (g : Gl) (b : Nat → Nat → Nat) (hs : Int32) (n0 : Blk) (n1 : Blk) (n2 : Blk) (ζ : Row) (η : (Nat → Blk)) (δ : Row) (χ : Blk) (x1 : Int32) (x2 : Bool) (x3 : Int32) {res : Int32} (h : f_X5_reason hs n0 n1 n2 ζ η δ χ x1 x2 x3 = some res) : Ok l g yX5_reason cX5_reason 4 (Option.some FieldType.int) 4 88 [.ref (b 11 0), .int x1, .int (b2i x2), .int x3] (wHS g b hs n0 n1 n2 ζ η δ χ) (some (.int res)) (wHS g b hs n0 n1 n2 ζ η δ χ) := by
  refine Ok.of RX5 (by decide) rfl (Nat.le_of_ble_eq_true rfl) (fun x hl hg X F => ?_)
  subst hg; subst hl
  rw [f_X5_reason] at h
  show V x (wHS x.g b hs n0 n1 n2 ζ η δ χ) [(0, .ref (b 11 0)), (1, .int x1), (2, .int (b2i x2)), (3, .int x3)] [] 0
  refine v_aload_n X (pc := 0) dX5_reason_0 rfl 0 rfl ?_
  refine v_get X (pc := 1) (v := .ref ((b 0) 0)) uw5 0 rfl rfl 0 (by decide) q_161 rfl rfl dX5_reason_1 ?_
  refine v_iload_n X (pc := 4) dX5_reason_4 rfl 1 rfl ?_
  obtain ⟨q5, e5, h⟩ := lts h
  refine v_callV X (pc := 5) (st1 := [.int (b2i q5)]) (w' := (wHS x.g b hs n0 n1 n2 ζ η δ χ)) [.int x1] [] (c_X4_hasStile x.l x.g (b 0) n0 x1 e5) rfl rfl cw_X4_hasStile q_236 q_237 q_238 ⟨by decide, by decide⟩ 1 4 rfl rfl rfl (Fr.of [1, 2, 3, 4, 5, 6, 7, 8, 9, 10, 11, 12] rfl rfl rfl rfl rfl) rfl (Nat.le_of_ble_eq_true rfl) dX5_reason_5 ?_
  refine v_ifneB X (pc := 8) (tgt := 14) dX5_reason_8 (by decide) (fun c => ?_) (fun c => ?_)
  · replace h := hp c h
    refine v_iload_n X (pc := 14) dX5_reason_14 rfl 3 rfl ?_
    obtain ⟨q15, e15, h⟩ := lts h
    refine v_callS X (pc := 15) (st1 := [.int (b2i q15)]) (w' := (wHS x.g b hs n0 n1 n2 ζ η δ χ)) [.int x3] [] (c_X5_isManyPeople x.l x.g  x3 e15) rfl rfl cw_X5_isManyPeople q_494 q_495 ⟨by decide, by decide⟩ Fr.nil rfl (Nat.le_of_ble_eq_true rfl) dX5_reason_15 ?_
    refine v_ifneB X (pc := 18) (tgt := 24) dX5_reason_18 (by decide) (fun c => ?_) (fun c => ?_)
    · replace h := hp c h
      refine v_aload_n X (pc := 24) dX5_reason_24 rfl 0 rfl ?_
      refine v_get X (pc := 25) (v := .ref ((b 0) 0)) uw5 0 rfl rfl 0 (by decide) q_161 rfl rfl dX5_reason_25 ?_
      refine v_iload_n X (pc := 28) dX5_reason_28 rfl 1 rfl ?_
      refine v_iload_n X (pc := 29) dX5_reason_29 rfl 2 rfl ?_
      refine v_iload_n X (pc := 30) dX5_reason_30 rfl 3 rfl ?_
      obtain ⟨q31, e31, h⟩ := ob h
      refine v_callV X (pc := 31) (st1 := [.int q31]) (w' := (wHS x.g b hs n0 n1 n2 ζ η δ χ)) [.int x1, .int (b2i x2), .int x3] [] (c_X4_whyNot x.l x.g (b 0) n0 x1 x2 x3 e31) rfl rfl cw_X4_whyNot q_497 q_498 q_499 ⟨by decide, by decide⟩ 1 4 rfl rfl rfl (Fr.of [1, 2, 3, 4, 5, 6, 7, 8, 9, 10, 11, 12] rfl rfl rfl rfl rfl) rfl (Nat.le_of_ble_eq_true rfl) dX5_reason_31 ?_
      replace h := oi h
      subst h
      exact v_iret X (pc := 34) F dX5_reason_34
    · replace h := hn (nbt c) h
      refine v_ldc X (pc := 21) (v := (-100002)) q_257 dX5_reason_21 ?_
      replace h := oi h
      subst h
      exact v_iret X (pc := 23) F dX5_reason_23
  · replace h := hn (nbt c) h
    refine v_ldc X (pc := 11) (v := (-100001)) q_240 dX5_reason_11 ?_
    replace h := oi h
    subst h
    exact v_iret X (pc := 13) F dX5_reason_13
theorem cw_X5_reason : CwB yX5_reason cX5_reason 4 (Option.some FieldType.int) 3 := ⟨q_540, q_14, by decide, by decide, by decide +kernel⟩
def f_X5_worst_L9 (hs : Int32) (n0 : Blk) (n1 : Blk) (n2 : Blk) (ζ : Row) (η : (Nat → Blk)) (δ : Row) (χ : Blk) (x1 : Int32) : Nat → Int32 → Option (Int32)
  | 0, _ => none
  | n + 1, x2 =>
    (if (n0 0 0) ≤ x2 then some (-100005) else (f_X1_gapOf n0 x2).bind fun q28 => (if q28 ≤ 0 then f_X5_worst_L9 hs n0 n1 n2 ζ η δ χ x1 n (x2 + 1) else (f_X4_worseStiles n0 x2).bind fun q39 => (if q39 = x1 then some x2 else f_X5_worst_L9 hs n0 n1 n2 ζ η δ χ x1 n (x2 + 1))))
set_option maxHeartbeats 4000000 in
set_option maxRecDepth 100000 in
theorem v_X5_worst_L9 {x : Ctx} (X : Cx x RX5 cX5_worst 3 4 91) (b : Nat → Nat → Nat) (hs : Int32) (n0 : Blk) (n1 : Blk) (n2 : Blk) (ζ : Row) (η : (Nat → Blk)) (δ : Row) (χ : Blk) (x1 : Int32) : ∀ (n : Nat) (x2 : Int32) {res : Int32}, f_X5_worst_L9 hs n0 n1 n2 ζ η δ χ x1 n x2 = some res → Fn x (Option.some FieldType.int) (some (.int res)) (wHS x.g b hs n0 n1 n2 ζ η δ χ) → V x (wHS x.g b hs n0 n1 n2 ζ η δ χ) [(0, .ref (b 11 0)), (1, .int x1), (2, .int x2)] [] 9 := by
  intro n
  induction n with
  | zero =>
    intro x2 res h F
    rw [f_X5_worst_L9] at h
    cases h
  | succ n ih =>
    intro x2 res h F
    rw [f_X5_worst_L9] at h
    refine v_iload_n X (pc := 9) dX5_worst_9 rfl 2 rfl ?_
    refine v_aload_n X (pc := 10) dX5_worst_10 rfl 0 rfl ?_
    refine v_get X (pc := 11) (v := .ref ((b 0) 0)) uw5 0 rfl rfl 0 (by decide) q_161 rfl rfl dX5_worst_11 ?_
    refine v_getN X (pc := 14) (v := .int (n0 0 0)) uw4 1 rfl rfl 7 (by decide) k_11 rfl rfl dX5_worst_14 ?_
    refine v_icmpge X (pc := 17) (tgt := 54) dX5_worst_17 (by decide) (fun c => ?_) (fun c => ?_)
    · replace h := hp c h
      refine v_ldc X (pc := 54) (v := (-100005)) q_187 dX5_worst_54 ?_
      replace h := oi h
      subst h
      exact v_iret X (pc := 56) F dX5_worst_56
    · replace h := hn c h
      refine v_aload_n X (pc := 20) dX5_worst_20 rfl 0 rfl ?_
      refine v_get X (pc := 21) (v := .ref ((b 0) 0)) uw5 0 rfl rfl 0 (by decide) q_161 rfl rfl dX5_worst_21 ?_
      refine v_getN X (pc := 24) (v := .ref ((b 0) 11)) uw4 1 rfl rfl 6 (by decide) k_10 rfl rfl dX5_worst_24 ?_
      refine v_iload_n X (pc := 27) dX5_worst_27 rfl 2 rfl ?_
      obtain ⟨q28, e28, h⟩ := ob h
      refine v_callV X (pc := 28) (st1 := [.int q28]) (w' := (wHS x.g b hs n0 n1 n2 ζ η δ χ)) [.int x2] [] (c_X1_gapOf x.l x.g (b 0) n0 x2 e28) rfl rfl cw_X1_gapOf q_242 q_243 q_244 ⟨by decide, by decide⟩ 12 1 rfl rfl rfl (Fr.of [1, 2, 3, 4, 5, 6, 7, 8, 9, 10, 11, 12] rfl rfl rfl rfl rfl) rfl (Nat.le_of_ble_eq_true rfl) dX5_worst_28 ?_
      refine v_ifle X (pc := 31) (tgt := 48) dX5_worst_31 (by decide) (fun c => ?_) (fun c => ?_)
      · replace h := hp c h
        refine v_iinc X (pc := 48) (v := (x2 + 1)) (L2 := [(2, .int (x2 + 1)), (0, .ref (b 11 0)), (1, .int x1)]) dX5_worst_48 2 rfl (by first | rfl | decide) (by decide) rfl ?_
        refine v_goto X (pc := 51) (tgt := 9) dX5_worst_51 (by decide) ?_
        refine v_sub (L2 := [(0, .ref (b 11 0)), (1, .int x1), (2, .int (x2 + 1))]) [1, 2, 0] rfl ?_
        exact ih (x2 + 1) h F
      · replace h := hn c h
        refine v_aload_n X (pc := 34) dX5_worst_34 rfl 0 rfl ?_
        refine v_get X (pc := 35) (v := .ref ((b 0) 0)) uw5 0 rfl rfl 0 (by decide) q_161 rfl rfl dX5_worst_35 ?_
        refine v_iload_n X (pc := 38) dX5_worst_38 rfl 2 rfl ?_
        obtain ⟨q39, e39, h⟩ := ob h
        refine v_callV X (pc := 39) (st1 := [.int q39]) (w' := (wHS x.g b hs n0 n1 n2 ζ η δ χ)) [.int x2] [] (c_X4_worseStiles x.l x.g (b 0) n0 x2 e39) rfl rfl cw_X4_worseStiles q_545 q_546 q_547 ⟨by decide, by decide⟩ 1 4 rfl rfl rfl (Fr.of [1, 2, 3, 4, 5, 6, 7, 8, 9, 10, 11, 12] rfl rfl rfl rfl rfl) rfl (Nat.le_of_ble_eq_true rfl) dX5_worst_39 ?_
        refine v_iload_n X (pc := 42) dX5_worst_42 rfl 1 rfl ?_
        refine v_icmpne X (pc := 43) (tgt := 48) dX5_worst_43 (by decide) (fun c => ?_) (fun c => ?_)
        · replace h := hn c h
          refine v_iinc X (pc := 48) (v := (x2 + 1)) (L2 := [(2, .int (x2 + 1)), (0, .ref (b 11 0)), (1, .int x1)]) dX5_worst_48 2 rfl (by first | rfl | decide) (by decide) rfl ?_
          refine v_goto X (pc := 51) (tgt := 9) dX5_worst_51 (by decide) ?_
          refine v_sub (L2 := [(0, .ref (b 11 0)), (1, .int x1), (2, .int (x2 + 1))]) [1, 2, 0] rfl ?_
          exact ih (x2 + 1) h F
        · replace h := hp c h
          refine v_iload_n X (pc := 46) dX5_worst_46 rfl 2 rfl ?_
          replace h := oi h
          subst h
          exact v_iret X (pc := 47) F dX5_worst_47
def f_X5_worst (hs : Int32) (n0 : Blk) (n1 : Blk) (n2 : Blk) (ζ : Row) (η : (Nat → Blk)) (δ : Row) (χ : Blk) (x1 : Int32) : Option (Int32) :=
  (if 0 ≤ x1 then f_X5_worst_L9 hs n0 n1 n2 ζ η δ χ x1 FU 0 else some (-100002))
set_option maxHeartbeats 4000000 in
set_option maxRecDepth 100000 in
theorem c_X5_worst (l : Launch) (g : Gl) (b : Nat → Nat → Nat) (hs : Int32) (n0 : Blk) (n1 : Blk) (n2 : Blk) (ζ : Row) (η : (Nat → Blk)) (δ : Row) (χ : Blk) (x1 : Int32) {res : Int32} (h : f_X5_worst hs n0 n1 n2 ζ η δ χ x1 = some res) : Ok l g yX5_worst cX5_worst 3 (Option.some FieldType.int) 4 91 [.ref (b 11 0), .int x1] (wHS g b hs n0 n1 n2 ζ η δ χ) (some (.int res)) (wHS g b hs n0 n1 n2 ζ η δ χ) := by
  refine Ok.of RX5 (by decide) rfl (Nat.le_of_ble_eq_true rfl) (fun x hl hg X F => ?_)
  subst hg; subst hl
  rw [f_X5_worst] at h
  show V x (wHS x.g b hs n0 n1 n2 ζ η δ χ) [(0, .ref (b 11 0)), (1, .int x1)] [] 0
  refine v_iload_n X (pc := 0) dX5_worst_0 rfl 1 rfl ?_
  refine v_ifge X (pc := 1) (tgt := 7) dX5_worst_1 (by decide) (fun c => ?_) (fun c => ?_)
  · replace h := hp c h
    refine v_iconst X (pc := 7) (v := 0) dX5_worst_7 (by decide) ?_
    refine v_istore_n X (pc := 8) (L2 := [(2, .int 0), (0, .ref (b 11 0)), (1, .int x1)]) dX5_worst_8 rfl (by decide) rfl ?_
    refine v_sub (L2 := [(0, .ref (b 11 0)), (1, .int x1), (2, .int 0)]) [1, 2, 0] rfl ?_
    exact v_X5_worst_L9 X b hs n0 n1 n2 ζ η δ χ x1 FU 0 h F
  · replace h := hn c h
    refine v_ldc X (pc := 4) (v := (-100002)) q_257 dX5_worst_4 ?_
    replace h := oi h
    subst h
    exact v_iret X (pc := 6) F dX5_worst_6
theorem cw_X5_worst : CwB yX5_worst cX5_worst 3 (Option.some FieldType.int) 1 := ⟨q_544, q_14, by decide, by decide, by decide +kernel⟩
def f_X5_count (hs : Int32) (n0 : Blk) (n1 : Blk) (n2 : Blk) (ζ : Row) (η : (Nat → Blk)) (δ : Row) (χ : Blk) (x1 : Int32) : Option (Int32) :=
  (if x1 = 0 then some (n0 0 3) else (if x1 = 1 then some (n0 0 0) else (if x1 = 2 then (f_X4_stilesUnderRepair n0).bind fun q88 => some q88 else (if x1 = 3 then (f_X4_peopleOfAllHalls n0).bind fun q96 => some q96 else (if x1 = 4 then (f_X4_toldByAllOwnSides n0).bind fun q104 => some q104 else (if x1 = 5 then (f_X4_toldByAllFarSides n0).bind fun q112 => some q112 else (if x1 = 6 then (f_X4_sumOfGaps n0).bind fun q120 => some q120 else (if x1 = 7 then (f_X1_withSlip n0).bind fun q131 => some q131 else (if x1 = 8 then (f_X4_fullestHall n0).bind fun q139 => some q139 else (if x1 = 9 then some (n0 0 1) else (if x1 = 10 then some (n0 0 2) else (if x1 = 11 then some (ζ 1) else (if x1 = 12 then some (χ 0 0) else some (-100002))))))))))))))
set_option maxHeartbeats 4000000 in
set_option maxRecDepth 100000 in
theorem c_X5_count (l : Launch) (g : Gl) (b : Nat → Nat → Nat) (hs : Int32) (n0 : Blk) (n1 : Blk) (n2 : Blk) (ζ : Row) (η : (Nat → Blk)) (δ : Row) (χ : Blk) (x1 : Int32) {res : Int32} (h : f_X5_count hs n0 n1 n2 ζ η δ χ x1 = some res) : Ok l g yX5_count cX5_count 2 (Option.some FieldType.int) 5 109 [.ref (b 11 0), .int x1] (wHS g b hs n0 n1 n2 ζ η δ χ) (some (.int res)) (wHS g b hs n0 n1 n2 ζ η δ χ) := by
  refine Ok.of RX5 (by decide) rfl (Nat.le_of_ble_eq_true rfl) (fun x hl hg X F => ?_)
  subst hg; subst hl
  rw [f_X5_count] at h
  show V x (wHS x.g b hs n0 n1 n2 ζ η δ χ) [(0, .ref (b 11 0)), (1, .int x1)] [] 0
  refine v_iload_n X (pc := 0) dX5_count_0 rfl 1 rfl ?_
  by_cases t0 : x1 = 0
  · replace h := hp t0 h
    refine v_tswIn X (pc := 1) (tgt := 68) (off := 67) dX5_count_1 (by rw [t0]; decide) (by rw [t0]; decide) (by rw [t0]; decide) (by decide) ?_
    refine v_aload_n X (pc := 68) dX5_count_68 rfl 0 rfl ?_
    refine v_get X (pc := 69) (v := .ref ((b 0) 0)) uw5 0 rfl rfl 0 (by decide) q_161 rfl rfl dX5_count_69 ?_
    refine v_getN X (pc := 72) (v := .int (n0 0 3)) uw4 1 rfl rfl 10 (by decide) k_16 rfl rfl dX5_count_72 ?_
    replace h := oi h
    subst h
    exact v_iret X (pc := 75) F dX5_count_75
  · replace h := hn t0 h
    by_cases t1 : x1 = 1
    · replace h := hp t1 h
      refine v_tswIn X (pc := 1) (tgt := 76) (off := 75) dX5_count_1 (by rw [t1]; decide) (by rw [t1]; decide) (by rw [t1]; decide) (by decide) ?_
      refine v_aload_n X (pc := 76) dX5_count_76 rfl 0 rfl ?_
      refine v_get X (pc := 77) (v := .ref ((b 0) 0)) uw5 0 rfl rfl 0 (by decide) q_161 rfl rfl dX5_count_77 ?_
      refine v_getN X (pc := 80) (v := .int (n0 0 0)) uw4 1 rfl rfl 7 (by decide) k_11 rfl rfl dX5_count_80 ?_
      replace h := oi h
      subst h
      exact v_iret X (pc := 83) F dX5_count_83
    · replace h := hn t1 h
      by_cases t2 : x1 = 2
      · replace h := hp t2 h
        refine v_tswIn X (pc := 1) (tgt := 84) (off := 83) dX5_count_1 (by rw [t2]; decide) (by rw [t2]; decide) (by rw [t2]; decide) (by decide) ?_
        refine v_aload_n X (pc := 84) dX5_count_84 rfl 0 rfl ?_
        refine v_get X (pc := 85) (v := .ref ((b 0) 0)) uw5 0 rfl rfl 0 (by decide) q_161 rfl rfl dX5_count_85 ?_
        obtain ⟨q88, e88, h⟩ := ob h
        refine v_callV X (pc := 88) (st1 := [.int q88]) (w' := (wHS x.g b hs n0 n1 n2 ζ η δ χ)) [] [] (c_X4_stilesUnderRepair x.l x.g (b 0) n0 e88) rfl rfl cw_X4_stilesUnderRepair q_262 q_263 q_264 ⟨by decide, by decide⟩ 1 4 rfl rfl rfl (Fr.of [1, 2, 3, 4, 5, 6, 7, 8, 9, 10, 11, 12] rfl rfl rfl rfl rfl) rfl (Nat.le_of_ble_eq_true rfl) dX5_count_88 ?_
        replace h := oi h
        subst h
        exact v_iret X (pc := 91) F dX5_count_91
      · replace h := hn t2 h
        by_cases t3 : x1 = 3
        · replace h := hp t3 h
          refine v_tswIn X (pc := 1) (tgt := 92) (off := 91) dX5_count_1 (by rw [t3]; decide) (by rw [t3]; decide) (by rw [t3]; decide) (by decide) ?_
          refine v_aload_n X (pc := 92) dX5_count_92 rfl 0 rfl ?_
          refine v_get X (pc := 93) (v := .ref ((b 0) 0)) uw5 0 rfl rfl 0 (by decide) q_161 rfl rfl dX5_count_93 ?_
          obtain ⟨q96, e96, h⟩ := ob h
          refine v_callV X (pc := 96) (st1 := [.int q96]) (w' := (wHS x.g b hs n0 n1 n2 ζ η δ χ)) [] [] (c_X4_peopleOfAllHalls x.l x.g (b 0) n0 e96) rfl rfl cw_X4_peopleOfAllHalls q_213 q_214 q_215 ⟨by decide, by decide⟩ 1 4 rfl rfl rfl (Fr.of [1, 2, 3, 4, 5, 6, 7, 8, 9, 10, 11, 12] rfl rfl rfl rfl rfl) rfl (Nat.le_of_ble_eq_true rfl) dX5_count_96 ?_
          replace h := oi h
          subst h
          exact v_iret X (pc := 99) F dX5_count_99
        · replace h := hn t3 h
          by_cases t4 : x1 = 4
          · replace h := hp t4 h
            refine v_tswIn X (pc := 1) (tgt := 100) (off := 99) dX5_count_1 (by rw [t4]; decide) (by rw [t4]; decide) (by rw [t4]; decide) (by decide) ?_
            refine v_aload_n X (pc := 100) dX5_count_100 rfl 0 rfl ?_
            refine v_get X (pc := 101) (v := .ref ((b 0) 0)) uw5 0 rfl rfl 0 (by decide) q_161 rfl rfl dX5_count_101 ?_
            obtain ⟨q104, e104, h⟩ := ob h
            refine v_callV X (pc := 104) (st1 := [.int q104]) (w' := (wHS x.g b hs n0 n1 n2 ζ η δ χ)) [] [] (c_X4_toldByAllOwnSides x.l x.g (b 0) n0 e104) rfl rfl cw_X4_toldByAllOwnSides q_270 q_271 q_272 ⟨by decide, by decide⟩ 1 4 rfl rfl rfl (Fr.of [1, 2, 3, 4, 5, 6, 7, 8, 9, 10, 11, 12] rfl rfl rfl rfl rfl) rfl (Nat.le_of_ble_eq_true rfl) dX5_count_104 ?_
            replace h := oi h
            subst h
            exact v_iret X (pc := 107) F dX5_count_107
          · replace h := hn t4 h
            by_cases t5 : x1 = 5
            · replace h := hp t5 h
              refine v_tswIn X (pc := 1) (tgt := 108) (off := 107) dX5_count_1 (by rw [t5]; decide) (by rw [t5]; decide) (by rw [t5]; decide) (by decide) ?_
              refine v_aload_n X (pc := 108) dX5_count_108 rfl 0 rfl ?_
              refine v_get X (pc := 109) (v := .ref ((b 0) 0)) uw5 0 rfl rfl 0 (by decide) q_161 rfl rfl dX5_count_109 ?_
              obtain ⟨q112, e112, h⟩ := ob h
              refine v_callV X (pc := 112) (st1 := [.int q112]) (w' := (wHS x.g b hs n0 n1 n2 ζ η δ χ)) [] [] (c_X4_toldByAllFarSides x.l x.g (b 0) n0 e112) rfl rfl cw_X4_toldByAllFarSides q_287 q_288 q_289 ⟨by decide, by decide⟩ 1 4 rfl rfl rfl (Fr.of [1, 2, 3, 4, 5, 6, 7, 8, 9, 10, 11, 12] rfl rfl rfl rfl rfl) rfl (Nat.le_of_ble_eq_true rfl) dX5_count_112 ?_
              replace h := oi h
              subst h
              exact v_iret X (pc := 115) F dX5_count_115
            · replace h := hn t5 h
              by_cases t6 : x1 = 6
              · replace h := hp t6 h
                refine v_tswIn X (pc := 1) (tgt := 116) (off := 115) dX5_count_1 (by rw [t6]; decide) (by rw [t6]; decide) (by rw [t6]; decide) (by decide) ?_
                refine v_aload_n X (pc := 116) dX5_count_116 rfl 0 rfl ?_
                refine v_get X (pc := 117) (v := .ref ((b 0) 0)) uw5 0 rfl rfl 0 (by decide) q_161 rfl rfl dX5_count_117 ?_
                obtain ⟨q120, e120, h⟩ := ob h
                refine v_callV X (pc := 120) (st1 := [.int q120]) (w' := (wHS x.g b hs n0 n1 n2 ζ η δ χ)) [] [] (c_X4_sumOfGaps x.l x.g (b 0) n0 e120) rfl rfl cw_X4_sumOfGaps q_295 q_296 q_297 ⟨by decide, by decide⟩ 1 4 rfl rfl rfl (Fr.of [1, 2, 3, 4, 5, 6, 7, 8, 9, 10, 11, 12] rfl rfl rfl rfl rfl) rfl (Nat.le_of_ble_eq_true rfl) dX5_count_120 ?_
                replace h := oi h
                subst h
                exact v_iret X (pc := 123) F dX5_count_123
              · replace h := hn t6 h
                by_cases t7 : x1 = 7
                · replace h := hp t7 h
                  refine v_tswIn X (pc := 1) (tgt := 124) (off := 123) dX5_count_1 (by rw [t7]; decide) (by rw [t7]; decide) (by rw [t7]; decide) (by decide) ?_
                  refine v_aload_n X (pc := 124) dX5_count_124 rfl 0 rfl ?_
                  refine v_get X (pc := 125) (v := .ref ((b 0) 0)) uw5 0 rfl rfl 0 (by decide) q_161 rfl rfl dX5_count_125 ?_
                  refine v_getN X (pc := 128) (v := .ref ((b 0) 11)) uw4 1 rfl rfl 6 (by decide) k_10 rfl rfl dX5_count_128 ?_
                  obtain ⟨q131, e131, h⟩ := ob h
                  refine v_callV X (pc := 131) (st1 := [.int q131]) (w' := (wHS x.g b hs n0 n1 n2 ζ η δ χ)) [] [] (c_X1_withSlip x.l x.g (b 0) n0 e131) rfl rfl cw_X1_withSlip q_300 q_301 q_302 ⟨by decide, by decide⟩ 12 1 rfl rfl rfl (Fr.of [1, 2, 3, 4, 5, 6, 7, 8, 9, 10, 11, 12] rfl rfl rfl rfl rfl) rfl (Nat.le_of_ble_eq_true rfl) dX5_count_131 ?_
                  replace h := oi h
                  subst h
                  exact v_iret X (pc := 134) F dX5_count_134
                · replace h := hn t7 h
                  by_cases t8 : x1 = 8
                  · replace h := hp t8 h
                    refine v_tswIn X (pc := 1) (tgt := 135) (off := 134) dX5_count_1 (by rw [t8]; decide) (by rw [t8]; decide) (by rw [t8]; decide) (by decide) ?_
                    refine v_aload_n X (pc := 135) dX5_count_135 rfl 0 rfl ?_
                    refine v_get X (pc := 136) (v := .ref ((b 0) 0)) uw5 0 rfl rfl 0 (by decide) q_161 rfl rfl dX5_count_136 ?_
                    obtain ⟨q139, e139, h⟩ := ob h
                    refine v_callV X (pc := 139) (st1 := [.int q139]) (w' := (wHS x.g b hs n0 n1 n2 ζ η δ χ)) [] [] (c_X4_fullestHall x.l x.g (b 0) n0 e139) rfl rfl cw_X4_fullestHall q_304 q_305 q_306 ⟨by decide, by decide⟩ 1 4 rfl rfl rfl (Fr.of [1, 2, 3, 4, 5, 6, 7, 8, 9, 10, 11, 12] rfl rfl rfl rfl rfl) rfl (Nat.le_of_ble_eq_true rfl) dX5_count_139 ?_
                    replace h := oi h
                    subst h
                    exact v_iret X (pc := 142) F dX5_count_142
                  · replace h := hn t8 h
                    by_cases t9 : x1 = 9
                    · replace h := hp t9 h
                      refine v_tswIn X (pc := 1) (tgt := 143) (off := 142) dX5_count_1 (by rw [t9]; decide) (by rw [t9]; decide) (by rw [t9]; decide) (by decide) ?_
                      refine v_aload_n X (pc := 143) dX5_count_143 rfl 0 rfl ?_
                      refine v_get X (pc := 144) (v := .ref ((b 0) 0)) uw5 0 rfl rfl 0 (by decide) q_161 rfl rfl dX5_count_144 ?_
                      refine v_getN X (pc := 147) (v := .int (n0 0 1)) uw4 1 rfl rfl 8 (by decide) k_14 rfl rfl dX5_count_147 ?_
                      replace h := oi h
                      subst h
                      exact v_iret X (pc := 150) F dX5_count_150
                    · replace h := hn t9 h
                      by_cases t10 : x1 = 10
                      · replace h := hp t10 h
                        refine v_tswIn X (pc := 1) (tgt := 151) (off := 150) dX5_count_1 (by rw [t10]; decide) (by rw [t10]; decide) (by rw [t10]; decide) (by decide) ?_
                        refine v_aload_n X (pc := 151) dX5_count_151 rfl 0 rfl ?_
                        refine v_get X (pc := 152) (v := .ref ((b 0) 0)) uw5 0 rfl rfl 0 (by decide) q_161 rfl rfl dX5_count_152 ?_
                        refine v_getN X (pc := 155) (v := .int (n0 0 2)) uw4 1 rfl rfl 9 (by decide) k_15 rfl rfl dX5_count_155 ?_
                        replace h := oi h
                        subst h
                        exact v_iret X (pc := 158) F dX5_count_158
                      · replace h := hn t10 h
                        by_cases t11 : x1 = 11
                        · replace h := hp t11 h
                          refine v_tswIn X (pc := 1) (tgt := 159) (off := 158) dX5_count_1 (by rw [t11]; decide) (by rw [t11]; decide) (by rw [t11]; decide) (by decide) ?_
                          refine v_aload_n X (pc := 159) dX5_count_159 rfl 0 rfl ?_
                          refine v_get X (pc := 160) (v := .ref ((b 8) 0)) uw5 0 rfl rfl 3 (by decide) q_164 rfl rfl dX5_count_160 ?_
                          refine v_getN X (pc := 163) (v := .int (ζ 1)) uw2 37 rfl rfl 2 (by decide) k_17 rfl rfl dX5_count_163 ?_
                          replace h := oi h
                          subst h
                          exact v_iret X (pc := 166) F dX5_count_166
                        · replace h := hn t11 h
                          by_cases t12 : x1 = 12
                          · replace h := hp t12 h
                            refine v_tswIn X (pc := 1) (tgt := 167) (off := 166) dX5_count_1 (by rw [t12]; decide) (by rw [t12]; decide) (by rw [t12]; decide) (by decide) ?_
                            refine v_aload_n X (pc := 167) dX5_count_167 rfl 0 rfl ?_
                            refine v_get X (pc := 168) (v := .ref ((b 10) 0)) uw5 0 rfl rfl 5 (by decide) q_166 rfl rfl dX5_count_168 ?_
                            refine v_getN X (pc := 171) (v := .int (χ 0 0)) uw3 101 rfl rfl 1 (by decide) k_20 rfl rfl dX5_count_171 ?_
                            replace h := oi h
                            subst h
                            exact v_iret X (pc := 174) F dX5_count_174
                          · replace h := hn t12 h
                            have u0 : ¬ Int32.toInt x1 = 0 := fun e => t0 ((Int32.toInt_inj (y := 0)).mp e)
                            have u1 : ¬ Int32.toInt x1 = 1 := fun e => t1 ((Int32.toInt_inj (y := 1)).mp e)
                            have u2 : ¬ Int32.toInt x1 = 2 := fun e => t2 ((Int32.toInt_inj (y := 2)).mp e)
                            have u3 : ¬ Int32.toInt x1 = 3 := fun e => t3 ((Int32.toInt_inj (y := 3)).mp e)
                            have u4 : ¬ Int32.toInt x1 = 4 := fun e => t4 ((Int32.toInt_inj (y := 4)).mp e)
                            have u5 : ¬ Int32.toInt x1 = 5 := fun e => t5 ((Int32.toInt_inj (y := 5)).mp e)
                            have u6 : ¬ Int32.toInt x1 = 6 := fun e => t6 ((Int32.toInt_inj (y := 6)).mp e)
                            have u7 : ¬ Int32.toInt x1 = 7 := fun e => t7 ((Int32.toInt_inj (y := 7)).mp e)
                            have u8 : ¬ Int32.toInt x1 = 8 := fun e => t8 ((Int32.toInt_inj (y := 8)).mp e)
                            have u9 : ¬ Int32.toInt x1 = 9 := fun e => t9 ((Int32.toInt_inj (y := 9)).mp e)
                            have u10 : ¬ Int32.toInt x1 = 10 := fun e => t10 ((Int32.toInt_inj (y := 10)).mp e)
                            have u11 : ¬ Int32.toInt x1 = 11 := fun e => t11 ((Int32.toInt_inj (y := 11)).mp e)
                            have u12 : ¬ Int32.toInt x1 = 12 := fun e => t12 ((Int32.toInt_inj (y := 12)).mp e)
                            refine v_tswOut X (pc := 1) (tgt := 175) dX5_count_1 (by omega) (by decide) ?_
                            refine v_ldc X (pc := 175) (v := (-100002)) q_257 dX5_count_175 ?_
                            replace h := oi h
                            subst h
                            exact v_iret X (pc := 177) F dX5_count_177
theorem cw_X5_count : CwB yX5_count cX5_count 2 (Option.some FieldType.int) 1 := ⟨q_261, q_14, by decide, by decide, by decide +kernel⟩
def f_X5_most (hs : Int32) (n0 : Blk) (n1 : Blk) (n2 : Blk) (ζ : Row) (η : (Nat → Blk)) (δ : Row) (χ : Blk) (x1 : Int32) (x2 : Bool) : Option (Int32) :=
  lt (f_X4_hasStile n0 x1) fun q5 => (if q5 = true then (f_X4_mostThrough n0 x1 x2).bind fun q20 => some q20 else some (-100001))
set_option maxHeartbeats 4000000 in
set_option maxRecDepth 100000 in
theorem c_X5_most (l : Launch) (g : Gl) (b : Nat → Nat → Nat) (hs : Int32) (n0 : Blk) (n1 : Blk) (n2 : Blk) (ζ : Row) (η : (Nat → Blk)) (δ : Row) (χ : Blk) (x1 : Int32) (x2 : Bool) {res : Int32} (h : f_X5_most hs n0 n1 n2 ζ η δ χ x1 x2 = some res) : Ok l g yX5_most cX5_most 3 (Option.some FieldType.int) 4 87 [.ref (b 11 0), .int x1, .int (b2i x2)] (wHS g b hs n0 n1 n2 ζ η δ χ) (some (.int res)) (wHS g b hs n0 n1 n2 ζ η δ χ) := by
  refine Ok.of RX5 (by decide) rfl (Nat.le_of_ble_eq_true rfl) (fun x hl hg X F => ?_)
  subst hg; subst hl
  rw [f_X5_most] at h
  show V x (wHS x.g b hs n0 n1 n2 ζ η δ χ) [(0, .ref (b 11 0)), (1, .int x1), (2, .int (b2i x2))] [] 0
  refine v_aload_n X (pc := 0) dX5_most_0 rfl 0 rfl ?_
  refine v_get X (pc := 1) (v := .ref ((b 0) 0)) uw5 0 rfl rfl 0 (by decide) q_161 rfl rfl dX5_most_1 ?_
  refine v_iload_n X (pc := 4) dX5_most_4 rfl 1 rfl ?_
  obtain ⟨q5, e5, h⟩ := lts h
  refine v_callV X (pc := 5) (st1 := [.int (b2i q5)]) (w' := (wHS x.g b hs n0 n1 n2 ζ η δ χ)) [.int x1] [] (c_X4_hasStile x.l x.g (b 0) n0 x1 e5) rfl rfl cw_X4_hasStile q_236 q_237 q_238 ⟨by decide, by decide⟩ 1 4 rfl rfl rfl (Fr.of [1, 2, 3, 4, 5, 6, 7, 8, 9, 10, 11, 12] rfl rfl rfl rfl rfl) rfl (Nat.le_of_ble_eq_true rfl) dX5_most_5 ?_
  refine v_ifneB X (pc := 8) (tgt := 14) dX5_most_8 (by decide) (fun c => ?_) (fun c => ?_)
  · replace h := hp c h
    refine v_aload_n X (pc := 14) dX5_most_14 rfl 0 rfl ?_
    refine v_get X (pc := 15) (v := .ref ((b 0) 0)) uw5 0 rfl rfl 0 (by decide) q_161 rfl rfl dX5_most_15 ?_
    refine v_iload_n X (pc := 18) dX5_most_18 rfl 1 rfl ?_
    refine v_iload_n X (pc := 19) dX5_most_19 rfl 2 rfl ?_
    obtain ⟨q20, e20, h⟩ := ob h
    refine v_callV X (pc := 20) (st1 := [.int q20]) (w' := (wHS x.g b hs n0 n1 n2 ζ η δ χ)) [.int x1, .int (b2i x2)] [] (c_X4_mostThrough x.l x.g (b 0) n0 x1 x2 e20) rfl rfl cw_X4_mostThrough q_536 q_450 q_451 ⟨by decide, by decide⟩ 1 4 rfl rfl rfl (Fr.of [1, 2, 3, 4, 5, 6, 7, 8, 9, 10, 11, 12] rfl rfl rfl rfl rfl) rfl (Nat.le_of_ble_eq_true rfl) dX5_most_20 ?_
    replace h := oi h
    subst h
    exact v_iret X (pc := 23) F dX5_most_23
  · replace h := hn (nbt c) h
    refine v_ldc X (pc := 11) (v := (-100001)) q_240 dX5_most_11 ?_
    replace h := oi h
    subst h
    exact v_iret X (pc := 13) F dX5_most_13
theorem cw_X5_most : CwB yX5_most cX5_most 3 (Option.some FieldType.int) 2 := ⟨q_535, q_14, by decide, by decide, by decide +kernel⟩
def f_X5_emptyIn_L13 (hs : Int32) (n0 : Blk) (n1 : Blk) (ζ : Row) (η : (Nat → Blk)) (χ : Blk) : Nat → Blk → Row → Int32 → Option (Int32 × Blk × Row)
  | 0, _, _, _ => none
  | n + 1, n2, δ, x1 =>
    (if 300 ≤ x1 then (f_X4_peopleOfAllHalls n2).bind fun q79 => (if q79 = 0 then some (300, n2, δ) else some ((-100005), n2, δ)) else (f_X4_peopleOfAllHalls n2).bind fun q24 => (if q24 = 0 then some (x1, n2, δ) else (f_X4_stilesUnderRepair n2).bind fun q36 => (if q36 ≤ 0 then (f_X0_closeForAnHour δ n2).bind fun q56 => (if q56.1 = 0 then some ((-100005), q56.2.2, q56.2.1) else f_X5_emptyIn_L13 hs n0 n1 ζ η χ n q56.2.2 q56.2.1 (x1 + 1)) else (f_X0_closeForAnHour δ n2).bind fun q56 => (if q56.1 = 0 then f_X5_emptyIn_L13 hs n0 n1 ζ η χ n q56.2.2 q56.2.1 (x1 + 1) else f_X5_emptyIn_L13 hs n0 n1 ζ η χ n q56.2.2 q56.2.1 (x1 + 1)))))
set_option maxHeartbeats 4000000 in
set_option maxRecDepth 100000 in
theorem v_X5_emptyIn_L13 {x : Ctx} (X : Cx x RX5 cX5_emptyIn 3 7 161) (b : Nat → Nat → Nat) (hs : Int32) (n0 : Blk) (n1 : Blk) (ζ : Row) (η : (Nat → Blk)) (χ : Blk) : ∀ (n : Nat) (n2 : Blk) (δ : Row) (x1 : Int32) {res : Int32 × Blk × Row}, f_X5_emptyIn_L13 hs n0 n1 ζ η χ n n2 δ x1 = some res → Fn x (Option.some FieldType.int) (some (.int res.1)) (wHS x.g b hs n0 n1 res.2.1 ζ η res.2.2 χ) → V x (wHS x.g b hs n0 n1 n2 ζ η δ χ) [(0, .ref (b 11 0)), (1, .int x1)] [] 13 := by
  intro n
  induction n with
  | zero =>
    intro n2 δ x1 res h F
    rw [f_X5_emptyIn_L13] at h
    cases h
  | succ n ih =>
    intro n2 δ x1 res h F
    rw [f_X5_emptyIn_L13] at h
    refine v_iload_n X (pc := 13) dX5_emptyIn_13 rfl 1 rfl ?_
    refine v_sipush X (pc := 14) (v := 300) dX5_emptyIn_14 (by decide) ?_
    refine v_icmpge X (pc := 17) (tgt := 75) dX5_emptyIn_17 (by decide) (fun c => ?_) (fun c => ?_)
    · replace h := hp c h
      refine v_aload_n X (pc := 75) dX5_emptyIn_75 rfl 0 rfl ?_
      refine v_get X (pc := 76) (v := .ref ((b 2) 0)) uw5 0 rfl rfl 2 (by decide) q_163 rfl rfl dX5_emptyIn_76 ?_
      obtain ⟨q79, e79, h⟩ := ob h
      refine v_callV X (pc := 79) (st1 := [.int q79]) (w' := (wHS x.g b hs n0 n1 n2 ζ η δ χ)) [] [] (c_X4_peopleOfAllHalls x.l x.g (b 2) n2 e79) rfl rfl cw_X4_peopleOfAllHalls q_213 q_214 q_215 ⟨by decide, by decide⟩ 25 4 rfl rfl rfl (Fr.of [25, 26, 27, 28, 29, 30, 31, 32, 33, 34, 35, 36] rfl rfl rfl rfl rfl) rfl (Nat.le_of_ble_eq_true rfl) dX5_emptyIn_79 ?_
      refine v_ifne X (pc := 82) (tgt := 91) dX5_emptyIn_82 (by decide) (fun c => ?_) (fun c => ?_)
      · replace h := hn c h
        refine v_ldc X (pc := 91) (v := (-100005)) q_187 dX5_emptyIn_91 ?_
        replace h := oi h
        subst h
        exact v_iret X (pc := 93) F dX5_emptyIn_93
      · replace h := hp c h
        refine v_sipush X (pc := 85) (v := 300) dX5_emptyIn_85 (by decide) ?_
        refine v_goto X (pc := 88) (tgt := 93) dX5_emptyIn_88 (by decide) ?_
        replace h := oi h
        subst h
        exact v_iret X (pc := 93) F dX5_emptyIn_93
    · replace h := hn c h
      refine v_aload_n X (pc := 20) dX5_emptyIn_20 rfl 0 rfl ?_
      refine v_get X (pc := 21) (v := .ref ((b 2) 0)) uw5 0 rfl rfl 2 (by decide) q_163 rfl rfl dX5_emptyIn_21 ?_
      obtain ⟨q24, e24, h⟩ := ob h
      refine v_callV X (pc := 24) (st1 := [.int q24]) (w' := (wHS x.g b hs n0 n1 n2 ζ η δ χ)) [] [] (c_X4_peopleOfAllHalls x.l x.g (b 2) n2 e24) rfl rfl cw_X4_peopleOfAllHalls q_213 q_214 q_215 ⟨by decide, by decide⟩ 25 4 rfl rfl rfl (Fr.of [25, 26, 27, 28, 29, 30, 31, 32, 33, 34, 35, 36] rfl rfl rfl rfl rfl) rfl (Nat.le_of_ble_eq_true rfl) dX5_emptyIn_24 ?_
      refine v_ifne X (pc := 27) (tgt := 32) dX5_emptyIn_27 (by decide) (fun c => ?_) (fun c => ?_)
      · replace h := hn c h
        refine v_aload_n X (pc := 32) dX5_emptyIn_32 rfl 0 rfl ?_
        refine v_get X (pc := 33) (v := .ref ((b 2) 0)) uw5 0 rfl rfl 2 (by decide) q_163 rfl rfl dX5_emptyIn_33 ?_
        obtain ⟨q36, e36, h⟩ := ob h
        refine v_callV X (pc := 36) (st1 := [.int q36]) (w' := (wHS x.g b hs n0 n1 n2 ζ η δ χ)) [] [] (c_X4_stilesUnderRepair x.l x.g (b 2) n2 e36) rfl rfl cw_X4_stilesUnderRepair q_262 q_263 q_264 ⟨by decide, by decide⟩ 25 4 rfl rfl rfl (Fr.of [25, 26, 27, 28, 29, 30, 31, 32, 33, 34, 35, 36] rfl rfl rfl rfl rfl) rfl (Nat.le_of_ble_eq_true rfl) dX5_emptyIn_36 ?_
        refine v_ifle X (pc := 39) (tgt := 46) dX5_emptyIn_39 (by decide) (fun c => ?_) (fun c => ?_)
        · replace h := hp c h
          refine v_iconst X (pc := 46) (v := 0) dX5_emptyIn_46 (by decide) ?_
          refine v_istore_n X (pc := 47) (L2 := [(2, .int 0), (0, .ref (b 11 0)), (1, .int x1)]) dX5_emptyIn_47 rfl (by decide) rfl ?_
          refine v_aload_n X (pc := 48) dX5_emptyIn_48 rfl 1 rfl ?_
          refine v_get X (pc := 49) (v := .ref ((b 9) 0)) uw5 0 rfl rfl 4 (by decide) q_165 rfl rfl dX5_emptyIn_49 ?_
          refine v_aload_n X (pc := 52) dX5_emptyIn_52 rfl 1 rfl ?_
          refine v_get X (pc := 53) (v := .ref ((b 2) 0)) uw5 0 rfl rfl 2 (by decide) q_163 rfl rfl dX5_emptyIn_53 ?_
          obtain ⟨q56, e56, h⟩ := ob h
          refine v_callV X (pc := 56) (st1 := [.int q56.1]) (w' := (wHS x.g b hs n0 n1 q56.2.2 ζ η q56.2.1 χ)) [.ref ((b 2) 0)] [] (c_X0_closeForAnHour x.l x.g (b 9) (b 2) δ n2 e56) rfl rfl cw_X0_closeForAnHour q_413 q_414 q_415 ⟨by decide, by decide⟩ 99 0 rfl rfl rfl (Fr.of [99, 100, 25, 26, 27, 28, 29, 30, 31, 32, 33, 34, 35, 36] rfl rfl rfl rfl rfl) rfl (Nat.le_of_ble_eq_true rfl) dX5_emptyIn_56 ?_
          refine v_ifne X (pc := 59) (tgt := 69) dX5_emptyIn_59 (by decide) (fun c => ?_) (fun c => ?_)
          · replace h := hn c h
            refine v_iinc X (pc := 69) (v := (x1 + 1)) (L2 := [(1, .int (x1 + 1)), (2, .int 0), (0, .ref (b 11 0))]) dX5_emptyIn_69 2 rfl (by first | rfl | decide) (by decide) rfl ?_
            refine v_goto X (pc := 72) (tgt := 13) dX5_emptyIn_72 (by decide) ?_
            refine v_sub (L2 := [(0, .ref (b 11 0)), (1, .int (x1 + 1))]) [2, 0] rfl ?_
            exact ih q56.2.2 q56.2.1 (x1 + 1) h F
          · replace h := hp c h
            refine v_iload_n X (pc := 62) dX5_emptyIn_62 rfl 0 rfl ?_
            refine v_ifne X (pc := 63) (tgt := 69) dX5_emptyIn_63 (by decide) (fun c => absurd c (by decide)) (fun _ => ?_)
            refine v_ldc X (pc := 66) (v := (-100005)) q_187 dX5_emptyIn_66 ?_
            replace h := oi h
            subst h
            exact v_iret X (pc := 68) F dX5_emptyIn_68
        · replace h := hn c h
          refine v_iconst X (pc := 42) (v := 1) dX5_emptyIn_42 (by decide) ?_
          refine v_goto X (pc := 43) (tgt := 47) dX5_emptyIn_43 (by decide) ?_
          refine v_istore_n X (pc := 47) (L2 := [(2, .int 1), (0, .ref (b 11 0)), (1, .int x1)]) dX5_emptyIn_47 rfl (by decide) rfl ?_
          refine v_aload_n X (pc := 48) dX5_emptyIn_48 rfl 1 rfl ?_
          refine v_get X (pc := 49) (v := .ref ((b 9) 0)) uw5 0 rfl rfl 4 (by decide) q_165 rfl rfl dX5_emptyIn_49 ?_
          refine v_aload_n X (pc := 52) dX5_emptyIn_52 rfl 1 rfl ?_
          refine v_get X (pc := 53) (v := .ref ((b 2) 0)) uw5 0 rfl rfl 2 (by decide) q_163 rfl rfl dX5_emptyIn_53 ?_
          obtain ⟨q56, e56, h⟩ := ob h
          refine v_callV X (pc := 56) (st1 := [.int q56.1]) (w' := (wHS x.g b hs n0 n1 q56.2.2 ζ η q56.2.1 χ)) [.ref ((b 2) 0)] [] (c_X0_closeForAnHour x.l x.g (b 9) (b 2) δ n2 e56) rfl rfl cw_X0_closeForAnHour q_413 q_414 q_415 ⟨by decide, by decide⟩ 99 0 rfl rfl rfl (Fr.of [99, 100, 25, 26, 27, 28, 29, 30, 31, 32, 33, 34, 35, 36] rfl rfl rfl rfl rfl) rfl (Nat.le_of_ble_eq_true rfl) dX5_emptyIn_56 ?_
          refine v_ifne X (pc := 59) (tgt := 69) dX5_emptyIn_59 (by decide) (fun c => ?_) (fun c => ?_)
          · replace h := hn c h
            refine v_iinc X (pc := 69) (v := (x1 + 1)) (L2 := [(1, .int (x1 + 1)), (2, .int 1), (0, .ref (b 11 0))]) dX5_emptyIn_69 2 rfl (by first | rfl | decide) (by decide) rfl ?_
            refine v_goto X (pc := 72) (tgt := 13) dX5_emptyIn_72 (by decide) ?_
            refine v_sub (L2 := [(0, .ref (b 11 0)), (1, .int (x1 + 1))]) [2, 0] rfl ?_
            exact ih q56.2.2 q56.2.1 (x1 + 1) h F
          · replace h := hp c h
            refine v_iload_n X (pc := 62) dX5_emptyIn_62 rfl 0 rfl ?_
            refine v_ifne X (pc := 63) (tgt := 69) dX5_emptyIn_63 (by decide) (fun _ => ?_) (fun c => absurd c (by decide))
            refine v_iinc X (pc := 69) (v := (x1 + 1)) (L2 := [(1, .int (x1 + 1)), (2, .int 1), (0, .ref (b 11 0))]) dX5_emptyIn_69 2 rfl (by first | rfl | decide) (by decide) rfl ?_
            refine v_goto X (pc := 72) (tgt := 13) dX5_emptyIn_72 (by decide) ?_
            refine v_sub (L2 := [(0, .ref (b 11 0)), (1, .int (x1 + 1))]) [2, 0] rfl ?_
            exact ih q56.2.2 q56.2.1 (x1 + 1) h F
      · replace h := hp c h
        refine v_iload_n X (pc := 30) dX5_emptyIn_30 rfl 1 rfl ?_
        replace h := oi h
        subst h
        exact v_iret X (pc := 31) F dX5_emptyIn_31
def f_X5_emptyIn (hs : Int32) (n0 : Blk) (n1 : Blk) (n2 : Blk) (ζ : Row) (η : (Nat → Blk)) (δ : Row) (χ : Blk) : Option (Int32 × Blk × Row) :=
  (f_X4_copyFrom n2 n0).bind fun q8 => f_X5_emptyIn_L13 hs n0 n1 ζ η χ FU q8 δ 0
set_option maxHeartbeats 4000000 in
set_option maxRecDepth 100000 in
theorem c_X5_emptyIn (l : Launch) (g : Gl) (b : Nat → Nat → Nat) (hs : Int32) (n0 : Blk) (n1 : Blk) (n2 : Blk) (ζ : Row) (η : (Nat → Blk)) (δ : Row) (χ : Blk) {res : Int32 × Blk × Row} (h : f_X5_emptyIn hs n0 n1 n2 ζ η δ χ = some res) : Ok l g yX5_emptyIn cX5_emptyIn 3 (Option.some FieldType.int) 7 161 [.ref (b 11 0)] (wHS g b hs n0 n1 n2 ζ η δ χ) (some (.int res.1)) (wHS g b hs n0 n1 res.2.1 ζ η res.2.2 χ) := by
  refine Ok.of RX5 (by decide) rfl (Nat.le_of_ble_eq_true rfl) (fun x hl hg X F => ?_)
  subst hg; subst hl
  rw [f_X5_emptyIn] at h
  show V x (wHS x.g b hs n0 n1 n2 ζ η δ χ) [(0, .ref (b 11 0))] [] 0
  refine v_aload_n X (pc := 0) dX5_emptyIn_0 rfl 0 rfl ?_
  refine v_get X (pc := 1) (v := .ref ((b 2) 0)) uw5 0 rfl rfl 2 (by decide) q_163 rfl rfl dX5_emptyIn_1 ?_
  refine v_aload_n X (pc := 4) dX5_emptyIn_4 rfl 0 rfl ?_
  refine v_get X (pc := 5) (v := .ref ((b 0) 0)) uw5 0 rfl rfl 0 (by decide) q_161 rfl rfl dX5_emptyIn_5 ?_
  obtain ⟨q8, e8, h⟩ := ob h
  refine v_callV X (pc := 8) (st1 := []) (w' := (wHS x.g b hs n0 n1 q8 ζ η δ χ)) [.ref ((b 0) 0)] [] (c_X4_copyFrom x.l x.g (b 2) (b 0) n2 n0 e8) rfl rfl cw_X4_copyFrom q_212 q_197 q_198 ⟨by decide, by decide⟩ 25 4 rfl rfl rfl (Fr.of [25, 26, 27, 28, 29, 30, 31, 32, 33, 34, 35, 36, 1, 2, 3, 4, 5, 6, 7, 8, 9, 10, 11, 12] rfl rfl rfl rfl rfl) rfl (Nat.le_of_ble_eq_true rfl) dX5_emptyIn_8 ?_
  refine v_iconst X (pc := 11) (v := 0) dX5_emptyIn_11 (by decide) ?_
  refine v_istore_n X (pc := 12) (L2 := [(1, .int 0), (0, .ref (b 11 0))]) dX5_emptyIn_12 rfl (by decide) rfl ?_
  refine v_sub (L2 := [(0, .ref (b 11 0)), (1, .int 0)]) [1, 0] rfl ?_
  exact v_X5_emptyIn_L13 X b hs n0 n1 ζ η χ FU q8 δ 0 h F
theorem cw_X5_emptyIn : CwB yX5_emptyIn cX5_emptyIn 3 (Option.some FieldType.int) 0 := ⟨q_561, q_14, by decide, by decide, by decide +kernel⟩
