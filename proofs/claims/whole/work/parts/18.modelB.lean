def f_X6_stile_L61 (x1 : Int32) (x2 : Int32) (x3 : Int32) : Nat → Blk → Int32 → Option (Int32 × Blk)
  | 0, _, _ => none
  | n + 1, μ, x4 =>
    (if 20 ≤ x4 then (if ib x3 2048 = true then lt (upR μ 1 (upd (μ 1) (Int32.toNatClampNeg x3) x1)) fun m90 => (if ib (x3 + 1) 2048 = true then lt (upR m90 1 (upd (m90 1) (Int32.toNatClampNeg (x3 + 1)) x2)) fun m99 => lt (upR m99 1 (upd (m99 1) 3 (((m99 1) 3) + 1))) fun m109 => some ((((m109 1) 3) - 1), m109) else none) else none) else (if ib (x3 + x4) 2048 = true then lt (upR μ 1 (upd (μ 1) (Int32.toNatClampNeg (x3 + x4)) 0)) fun m77 => f_X6_stile_L61 x1 x2 x3 n m77 (x4 + 1) else none))
set_option maxHeartbeats 4000000 in
set_option maxRecDepth 100000 in
theorem v_X6_stile_L61 {x : Ctx} (X : Cx x RX6 cX6_stile 5 2 44) (a : Nat → Nat) (x1 : Int32) (x2 : Int32) (x3 : Int32) : ∀ (n : Nat) (μ : Blk) (x4 : Int32) {res : Int32 × Blk}, f_X6_stile_L61 x1 x2 x3 n μ x4 = some res → Fn x (Option.some FieldType.int) (some (.int res.1)) (wM x.g a res.2) → V x (wM x.g a μ) [(0, .ref (a 0)), (1, .int x1), (2, .int x2), (3, .int x3), (4, .int x4)] [] 61 := by
  intro n
  induction n with
  | zero =>
    intro μ x4 res h F
    rw [f_X6_stile_L61] at h
    cases h
  | succ n ih =>
    intro μ x4 res h F
    rw [f_X6_stile_L61] at h
    refine v_iload X (pc := 61) dX6_stile_61 4 rfl ?_
    refine v_bipush X (pc := 63) (v := 20) dX6_stile_63 (by decide) ?_
    refine v_icmpge X (pc := 65) (tgt := 84) dX6_stile_65 (by decide) (fun c => ?_) (fun c => ?_)
    · replace h := hp c h
      refine v_aload_n X (pc := 84) dX6_stile_84 rfl 0 rfl ?_
      refine v_get X (pc := 85) (v := .ref (a 1)) uw6 0 rfl rfl 0 (by decide) q_668 rfl rfl dX6_stile_85 ?_
      refine v_iload_n X (pc := 88) dX6_stile_88 rfl 3 rfl ?_
      refine v_iload_n X (pc := 89) dX6_stile_89 rfl 1 rfl ?_
      obtain ⟨g90, h⟩ := og h
      obtain ⟨m90, em90, h⟩ := lts h
      refine v_iast X (pc := 90) (w' := (wM x.g a m90)) 1 rfl (ib_in g90) (by rw [← em90]; rfl) dX6_stile_90 ?_
      refine v_aload_n X (pc := 91) dX6_stile_91 rfl 0 rfl ?_
      refine v_get X (pc := 92) (v := .ref (a 1)) uw6 0 rfl rfl 0 (by decide) q_668 rfl rfl dX6_stile_92 ?_
      refine v_iload_n X (pc := 95) dX6_stile_95 rfl 3 rfl ?_
      refine v_iconst X (pc := 96) (v := 1) dX6_stile_96 (by decide) ?_
      refine v_iadd X (pc := 97) dX6_stile_97 ?_
      refine v_iload_n X (pc := 98) dX6_stile_98 rfl 2 rfl ?_
      obtain ⟨g99, h⟩ := og h
      obtain ⟨m99, em99, h⟩ := lts h
      refine v_iast X (pc := 99) (w' := (wM x.g a m99)) 1 rfl (ib_in g99) (by rw [← em99]; rfl) dX6_stile_99 ?_
      refine v_aload_n X (pc := 100) dX6_stile_100 rfl 0 rfl ?_
      refine v_get X (pc := 101) (v := .ref (a 1)) uw6 0 rfl rfl 0 (by decide) q_668 rfl rfl dX6_stile_101 ?_
      refine v_iconst X (pc := 104) (v := 3) dX6_stile_104 (by decide) ?_
      refine v_dup2 X (pc := 105) dX6_stile_105 rfl rfl ?_
      refine v_iald X (pc := 106) (v := ((m99 1) 3)) 1 rfl (ib_in (by decide)) rfl dX6_stile_106 ?_
      refine v_iconst X (pc := 107) (v := 1) dX6_stile_107 (by decide) ?_
      refine v_iadd X (pc := 108) dX6_stile_108 ?_
      obtain ⟨m109, em109, h⟩ := lts h
      refine v_iast X (pc := 109) (w' := (wM x.g a m109)) 1 rfl (ib_in (by decide)) (by rw [← em109]; rfl) dX6_stile_109 ?_
      refine v_aload_n X (pc := 110) dX6_stile_110 rfl 0 rfl ?_
      refine v_get X (pc := 111) (v := .ref (a 1)) uw6 0 rfl rfl 0 (by decide) q_668 rfl rfl dX6_stile_111 ?_
      refine v_iconst X (pc := 114) (v := 3) dX6_stile_114 (by decide) ?_
      refine v_iald X (pc := 115) (v := ((m109 1) 3)) 1 rfl (ib_in (by decide)) rfl dX6_stile_115 ?_
      refine v_iconst X (pc := 116) (v := 1) dX6_stile_116 (by decide) ?_
      refine v_isub X (pc := 117) dX6_stile_117 ?_
      replace h := oi h
      subst h
      exact v_iret X (pc := 118) F dX6_stile_118
    · replace h := hn c h
      refine v_aload_n X (pc := 68) dX6_stile_68 rfl 0 rfl ?_
      refine v_get X (pc := 69) (v := .ref (a 1)) uw6 0 rfl rfl 0 (by decide) q_668 rfl rfl dX6_stile_69 ?_
      refine v_iload_n X (pc := 72) dX6_stile_72 rfl 3 rfl ?_
      refine v_iload X (pc := 73) dX6_stile_73 4 rfl ?_
      refine v_iadd X (pc := 75) dX6_stile_75 ?_
      refine v_iconst X (pc := 76) (v := 0) dX6_stile_76 (by decide) ?_
      obtain ⟨g77, h⟩ := og h
      obtain ⟨m77, em77, h⟩ := lts h
      refine v_iast X (pc := 77) (w' := (wM x.g a m77)) 1 rfl (ib_in g77) (by rw [← em77]; rfl) dX6_stile_77 ?_
      refine v_iinc X (pc := 78) (v := (x4 + 1)) (L2 := [(4, .int (x4 + 1)), (0, .ref (a 0)), (1, .int x1), (2, .int x2), (3, .int x3)]) dX6_stile_78 4 rfl (by first | rfl | decide) (by decide) rfl ?_
      refine v_goto X (pc := 81) (tgt := 61) dX6_stile_81 (by decide) ?_
      refine v_sub (L2 := [(0, .ref (a 0)), (1, .int x1), (2, .int x2), (3, .int x3), (4, .int (x4 + 1))]) [1, 2, 3, 4, 0] rfl ?_
      exact ih m77 (x4 + 1) h F
def f_X6_stile (μ : Blk) (x1 : Int32) (x2 : Int32) : Option (Int32 × Blk) :=
  lt (f_X6_in x1 0 5) fun q3 => (if q3 = true then lt (f_X6_in x2 0 5) fun q12 => (if q12 = true then (if x1 = x2 then some ((-100002), μ) else (if ((μ 1) 3) = 12 then some ((-100003), μ) else (f_X6_records μ).bind fun q44 => lt (f_X6_place 0 ((q44 1) 3)) fun q54 => f_X6_stile_L61 x1 x2 q54 FU q44 0)) else some ((-100001), μ)) else some ((-100001), μ))
set_option maxHeartbeats 4000000 in
set_option maxRecDepth 100000 in
theorem c_X6_stile (l : Launch) (g : Gl) (a : Nat → Nat) (μ : Blk) (x1 : Int32) (x2 : Int32) {res : Int32 × Blk} (h : f_X6_stile μ x1 x2 = some res) : Ok l g yX6_stile cX6_stile 5 (Option.some FieldType.int) 2 44 [.ref (a 0), .int x1, .int x2] (wM g a μ) (some (.int res.1)) (wM g a res.2) := by
  refine Ok.of RX6 (by decide) rfl (Nat.le_of_ble_eq_true rfl) (fun x hl hg X F => ?_)
  subst hg; subst hl
  rw [f_X6_stile] at h
  show V x (wM x.g a μ) [(0, .ref (a 0)), (1, .int x1), (2, .int x2)] [] 0
  refine v_iload_n X (pc := 0) dX6_stile_0 rfl 1 rfl ?_
  refine v_iconst X (pc := 1) (v := 0) dX6_stile_1 (by decide) ?_
  refine v_iconst X (pc := 2) (v := 5) dX6_stile_2 (by decide) ?_
  obtain ⟨q3, e3, h⟩ := lts h
  refine v_callS X (pc := 3) (st1 := [.int (b2i q3)]) (w' := (wM x.g a μ)) [.int x1, .int 0, .int 5] [] (c_X6_in x.l x.g  x1 0 5 e3) rfl rfl cw_X6_in q_707 q_708 ⟨by decide, by decide⟩ Fr.nil rfl (Nat.le_of_ble_eq_true rfl) dX6_stile_3 ?_
  refine v_ifeqB X (pc := 6) (tgt := 18) dX6_stile_6 (by decide) (fun c => ?_) (fun c => ?_)
  · replace h := hn (nbt c) h
    refine v_ldc X (pc := 18) (v := (-100001)) q_710 dX6_stile_18 ?_
    replace h := oi h
    subst h
    exact v_iret X (pc := 20) F dX6_stile_20
  · replace h := hp c h
    refine v_iload_n X (pc := 9) dX6_stile_9 rfl 2 rfl ?_
    refine v_iconst X (pc := 10) (v := 0) dX6_stile_10 (by decide) ?_
    refine v_iconst X (pc := 11) (v := 5) dX6_stile_11 (by decide) ?_
    obtain ⟨q12, e12, h⟩ := lts h
    refine v_callS X (pc := 12) (st1 := [.int (b2i q12)]) (w' := (wM x.g a μ)) [.int x2, .int 0, .int 5] [] (c_X6_in x.l x.g  x2 0 5 e12) rfl rfl cw_X6_in q_707 q_708 ⟨by decide, by decide⟩ Fr.nil rfl (Nat.le_of_ble_eq_true rfl) dX6_stile_12 ?_
    refine v_ifneB X (pc := 15) (tgt := 21) dX6_stile_15 (by decide) (fun c => ?_) (fun c => ?_)
    · replace h := hp c h
      refine v_iload_n X (pc := 21) dX6_stile_21 rfl 1 rfl ?_
      refine v_iload_n X (pc := 22) dX6_stile_22 rfl 2 rfl ?_
      refine v_icmpne X (pc := 23) (tgt := 29) dX6_stile_23 (by decide) (fun c => ?_) (fun c => ?_)
      · replace h := hn c h
        refine v_aload_n X (pc := 29) dX6_stile_29 rfl 0 rfl ?_
        refine v_get X (pc := 30) (v := .ref (a 1)) uw6 0 rfl rfl 0 (by decide) q_668 rfl rfl dX6_stile_30 ?_
        refine v_iconst X (pc := 33) (v := 3) dX6_stile_33 (by decide) ?_
        refine v_iald X (pc := 34) (v := ((μ 1) 3)) 1 rfl (ib_in (by decide)) rfl dX6_stile_34 ?_
        refine v_bipush X (pc := 35) (v := 12) dX6_stile_35 (by decide) ?_
        refine v_icmpne X (pc := 37) (tgt := 43) dX6_stile_37 (by decide) (fun c => ?_) (fun c => ?_)
        · replace h := hn c h
          refine v_aload_n X (pc := 43) dX6_stile_43 rfl 0 rfl ?_
          obtain ⟨q44, e44, h⟩ := ob h
          refine v_callV X (pc := 44) (st1 := []) (w' := (wM x.g a q44)) [] [] (c_X6_records x.l x.g a μ e44) rfl rfl cw_X6_records q_713 q_715 q_20 ⟨by decide, by decide⟩ 0 6 rfl rfl rfl (Fr.all rfl) rfl (Nat.le_of_ble_eq_true rfl) dX6_stile_44 ?_
          refine v_iconst X (pc := 47) (v := 0) dX6_stile_47 (by decide) ?_
          refine v_aload_n X (pc := 48) dX6_stile_48 rfl 0 rfl ?_
          refine v_get X (pc := 49) (v := .ref (a 1)) uw6 0 rfl rfl 0 (by decide) q_668 rfl rfl dX6_stile_49 ?_
          refine v_iconst X (pc := 52) (v := 3) dX6_stile_52 (by decide) ?_
          refine v_iald X (pc := 53) (v := ((q44 1) 3)) 1 rfl (ib_in (by decide)) rfl dX6_stile_53 ?_
          obtain ⟨q54, e54, h⟩ := lts h
          refine v_callS X (pc := 54) (st1 := [.int q54]) (w' := (wM x.g a q44)) [.int 0, .int ((q44 1) 3)] [] (c_X6_place x.l x.g  0 ((q44 1) 3) e54) rfl rfl cw_X6_place q_721 q_722 ⟨by decide, by decide⟩ Fr.nil rfl (Nat.le_of_ble_eq_true rfl) dX6_stile_54 ?_
          refine v_istore_n X (pc := 57) (L2 := [(3, .int q54), (0, .ref (a 0)), (1, .int x1), (2, .int x2)]) dX6_stile_57 rfl (by decide) rfl ?_
          refine v_iconst X (pc := 58) (v := 0) dX6_stile_58 (by decide) ?_
          refine v_istore X (pc := 59) (L2 := [(4, .int 0), (3, .int q54), (0, .ref (a 0)), (1, .int x1), (2, .int x2)]) dX6_stile_59 (by decide) rfl ?_
          refine v_sub (L2 := [(0, .ref (a 0)), (1, .int x1), (2, .int x2), (3, .int q54), (4, .int 0)]) [2, 3, 4, 1, 0] rfl ?_
          exact v_X6_stile_L61 X a x1 x2 q54 FU q44 0 h F
        · replace h := hp c h
          refine v_ldc X (pc := 40) (v := (-100003)) q_712 dX6_stile_40 ?_
          replace h := oi h
          subst h
          exact v_iret X (pc := 42) F dX6_stile_42
      · replace h := hp c h
        refine v_ldc X (pc := 26) (v := (-100002)) q_711 dX6_stile_26 ?_
        replace h := oi h
        subst h
        exact v_iret X (pc := 28) F dX6_stile_28
    · replace h := hn (nbt c) h
      refine v_ldc X (pc := 18) (v := (-100001)) q_710 dX6_stile_18 ?_
      replace h := oi h
      subst h
      exact v_iret X (pc := 20) F dX6_stile_20
theorem cw_X6_stile : CwB yX6_stile cX6_stile 5 (Option.some FieldType.int) 2 := ⟨q_706, q_57, by decide, by decide, by decide +kernel⟩
def f_X6_open (μ : Blk) (x1 : Int32) (x2 : Int32) : Option (Int32 × Blk) :=
  lt (f_X6_isStile μ x1) fun q2 => (if q2 = true then lt (f_X6_in x2 0 3) fun q14 => (if q14 = true then (f_X6_records μ).bind fun q24 => lt (f_X6_place 0 x1) fun q33 => (if ib (q33 + 2) 2048 = true then lt (f_X6_place 0 x1) fun q46 => (if ib (q46 + 2) 2048 = true then lt (upR q24 1 (upd (q24 1) (Int32.toNatClampNeg (q46 + 2)) x2)) fun m52 => some (((q24 1) (Int32.toNatClampNeg (q33 + 2))), m52) else none) else none) else some ((-100002), μ)) else some ((-100001), μ))
set_option maxHeartbeats 4000000 in
set_option maxRecDepth 100000 in
theorem c_X6_open (l : Launch) (g : Gl) (a : Nat → Nat) (μ : Blk) (x1 : Int32) (x2 : Int32) {res : Int32 × Blk} (h : f_X6_open μ x1 x2 = some res) : Ok l g yX6_open cX6_open 4 (Option.some FieldType.int) 2 44 [.ref (a 0), .int x1, .int x2] (wM g a μ) (some (.int res.1)) (wM g a res.2) := by
  refine Ok.of RX6 (by decide) rfl (Nat.le_of_ble_eq_true rfl) (fun x hl hg X F => ?_)
  subst hg; subst hl
  rw [f_X6_open] at h
  show V x (wM x.g a μ) [(0, .ref (a 0)), (1, .int x1), (2, .int x2)] [] 0
  refine v_aload_n X (pc := 0) dX6_open_0 rfl 0 rfl ?_
  refine v_iload_n X (pc := 1) dX6_open_1 rfl 1 rfl ?_
  obtain ⟨q2, e2, h⟩ := lts h
  refine v_callV X (pc := 2) (st1 := [.int (b2i q2)]) (w' := (wM x.g a μ)) [.int x1] [] (c_X6_isStile x.l x.g a μ x1 e2) rfl rfl cw_X6_isStile q_728 q_730 q_22 ⟨by decide, by decide⟩ 0 6 rfl rfl rfl (Fr.all rfl) rfl (Nat.le_of_ble_eq_true rfl) dX6_open_2 ?_
  refine v_ifneB X (pc := 5) (tgt := 11) dX6_open_5 (by decide) (fun c => ?_) (fun c => ?_)
  · replace h := hp c h
    refine v_iload_n X (pc := 11) dX6_open_11 rfl 2 rfl ?_
    refine v_iconst X (pc := 12) (v := 0) dX6_open_12 (by decide) ?_
    refine v_iconst X (pc := 13) (v := 3) dX6_open_13 (by decide) ?_
    obtain ⟨q14, e14, h⟩ := lts h
    refine v_callS X (pc := 14) (st1 := [.int (b2i q14)]) (w' := (wM x.g a μ)) [.int x2, .int 0, .int 3] [] (c_X6_in x.l x.g  x2 0 3 e14) rfl rfl cw_X6_in q_707 q_708 ⟨by decide, by decide⟩ Fr.nil rfl (Nat.le_of_ble_eq_true rfl) dX6_open_14 ?_
    refine v_ifneB X (pc := 17) (tgt := 23) dX6_open_17 (by decide) (fun c => ?_) (fun c => ?_)
    · replace h := hp c h
      refine v_aload_n X (pc := 23) dX6_open_23 rfl 0 rfl ?_
      obtain ⟨q24, e24, h⟩ := ob h
      refine v_callV X (pc := 24) (st1 := []) (w' := (wM x.g a q24)) [] [] (c_X6_records x.l x.g a μ e24) rfl rfl cw_X6_records q_713 q_715 q_20 ⟨by decide, by decide⟩ 0 6 rfl rfl rfl (Fr.all rfl) rfl (Nat.le_of_ble_eq_true rfl) dX6_open_24 ?_
      refine v_aload_n X (pc := 27) dX6_open_27 rfl 0 rfl ?_
      refine v_get X (pc := 28) (v := .ref (a 1)) uw6 0 rfl rfl 0 (by decide) q_668 rfl rfl dX6_open_28 ?_
      refine v_iconst X (pc := 31) (v := 0) dX6_open_31 (by decide) ?_
      refine v_iload_n X (pc := 32) dX6_open_32 rfl 1 rfl ?_
      obtain ⟨q33, e33, h⟩ := lts h
      refine v_callS X (pc := 33) (st1 := [.int q33, .ref (a 1)]) (w' := (wM x.g a q24)) [.int 0, .int x1] [.ref (a 1)] (c_X6_place x.l x.g  0 x1 e33) rfl rfl cw_X6_place q_721 q_722 ⟨by decide, by decide⟩ Fr.nil rfl (Nat.le_of_ble_eq_true rfl) dX6_open_33 ?_
      refine v_iconst X (pc := 36) (v := 2) dX6_open_36 (by decide) ?_
      refine v_iadd X (pc := 37) dX6_open_37 ?_
      obtain ⟨g38, h⟩ := og h
      refine v_iald X (pc := 38) (v := ((q24 1) (Int32.toNatClampNeg (q33 + 2)))) 1 rfl (ib_in g38) rfl dX6_open_38 ?_
      refine v_istore_n X (pc := 39) (L2 := [(3, .int ((q24 1) (Int32.toNatClampNeg (q33 + 2)))), (0, .ref (a 0)), (1, .int x1), (2, .int x2)]) dX6_open_39 rfl (by decide) rfl ?_
      refine v_aload_n X (pc := 40) dX6_open_40 rfl 1 rfl ?_
      refine v_get X (pc := 41) (v := .ref (a 1)) uw6 0 rfl rfl 0 (by decide) q_668 rfl rfl dX6_open_41 ?_
      refine v_iconst X (pc := 44) (v := 0) dX6_open_44 (by decide) ?_
      refine v_iload_n X (pc := 45) dX6_open_45 rfl 2 rfl ?_
      obtain ⟨q46, e46, h⟩ := lts h
      refine v_callS X (pc := 46) (st1 := [.int q46, .ref (a 1)]) (w' := (wM x.g a q24)) [.int 0, .int x1] [.ref (a 1)] (c_X6_place x.l x.g  0 x1 e46) rfl rfl cw_X6_place q_721 q_722 ⟨by decide, by decide⟩ Fr.nil rfl (Nat.le_of_ble_eq_true rfl) dX6_open_46 ?_
      refine v_iconst X (pc := 49) (v := 2) dX6_open_49 (by decide) ?_
      refine v_iadd X (pc := 50) dX6_open_50 ?_
      refine v_iload_n X (pc := 51) dX6_open_51 rfl 3 rfl ?_
      obtain ⟨g52, h⟩ := og h
      obtain ⟨m52, em52, h⟩ := lts h
      refine v_iast X (pc := 52) (w' := (wM x.g a m52)) 1 rfl (ib_in g52) (by rw [← em52]; rfl) dX6_open_52 ?_
      refine v_iload_n X (pc := 53) dX6_open_53 rfl 0 rfl ?_
      replace h := oi h
      subst h
      exact v_iret X (pc := 54) F dX6_open_54
    · replace h := hn (nbt c) h
      refine v_ldc X (pc := 20) (v := (-100002)) q_711 dX6_open_20 ?_
      replace h := oi h
      subst h
      exact v_iret X (pc := 22) F dX6_open_22
  · replace h := hn (nbt c) h
    refine v_ldc X (pc := 8) (v := (-100001)) q_710 dX6_open_8 ?_
    replace h := oi h
    subst h
    exact v_iret X (pc := 10) F dX6_open_10
theorem cw_X6_open : CwB yX6_open cX6_open 4 (Option.some FieldType.int) 2 := ⟨q_727, q_57, by decide, by decide, by decide +kernel⟩
def f_X6_room (μ : Blk) (x1 : Int32) (x2 : Int32) : Option (Int32 × Blk) :=
  lt (f_X6_isHall x1) fun q1 => (if q1 = true then lt (f_X6_in x2 1 500) fun q15 => (if q15 = true then (if ib (10 + x1) 2048 = true then (if ((μ 1) (Int32.toNatClampNeg (10 + x1))) ≤ x2 then (f_X6_records μ).bind fun q41 => (if ib (4 + x1) 2048 = true then (if ib (4 + x1) 2048 = true then lt (upR q41 1 (upd (q41 1) (Int32.toNatClampNeg (4 + x1)) x2)) fun m61 => some (((q41 1) (Int32.toNatClampNeg (4 + x1))), m61) else none) else none) else some ((-100004), μ)) else none) else some ((-100002), μ)) else some ((-100001), μ))
set_option maxHeartbeats 4000000 in
set_option maxRecDepth 100000 in
theorem c_X6_room (l : Launch) (g : Gl) (a : Nat → Nat) (μ : Blk) (x1 : Int32) (x2 : Int32) {res : Int32 × Blk} (h : f_X6_room μ x1 x2 = some res) : Ok l g yX6_room cX6_room 4 (Option.some FieldType.int) 2 44 [.ref (a 0), .int x1, .int x2] (wM g a μ) (some (.int res.1)) (wM g a res.2) := by
  refine Ok.of RX6 (by decide) rfl (Nat.le_of_ble_eq_true rfl) (fun x hl hg X F => ?_)
  subst hg; subst hl
  rw [f_X6_room] at h
  show V x (wM x.g a μ) [(0, .ref (a 0)), (1, .int x1), (2, .int x2)] [] 0
  refine v_iload_n X (pc := 0) dX6_room_0 rfl 1 rfl ?_
  obtain ⟨q1, e1, h⟩ := lts h
  refine v_callS X (pc := 1) (st1 := [.int (b2i q1)]) (w' := (wM x.g a μ)) [.int x1] [] (c_X6_isHall x.l x.g  x1 e1) rfl rfl cw_X6_isHall q_736 q_737 ⟨by decide, by decide⟩ Fr.nil rfl (Nat.le_of_ble_eq_true rfl) dX6_room_1 ?_
  refine v_ifneB X (pc := 4) (tgt := 10) dX6_room_4 (by decide) (fun c => ?_) (fun c => ?_)
  · replace h := hp c h
    refine v_iload_n X (pc := 10) dX6_room_10 rfl 2 rfl ?_
    refine v_iconst X (pc := 11) (v := 1) dX6_room_11 (by decide) ?_
    refine v_sipush X (pc := 12) (v := 500) dX6_room_12 (by decide) ?_
    obtain ⟨q15, e15, h⟩ := lts h
    refine v_callS X (pc := 15) (st1 := [.int (b2i q15)]) (w' := (wM x.g a μ)) [.int x2, .int 1, .int 500] [] (c_X6_in x.l x.g  x2 1 500 e15) rfl rfl cw_X6_in q_707 q_708 ⟨by decide, by decide⟩ Fr.nil rfl (Nat.le_of_ble_eq_true rfl) dX6_room_15 ?_
    refine v_ifneB X (pc := 18) (tgt := 24) dX6_room_18 (by decide) (fun c => ?_) (fun c => ?_)
    · replace h := hp c h
      refine v_aload_n X (pc := 24) dX6_room_24 rfl 0 rfl ?_
      refine v_get X (pc := 25) (v := .ref (a 1)) uw6 0 rfl rfl 0 (by decide) q_668 rfl rfl dX6_room_25 ?_
      refine v_bipush X (pc := 28) (v := 10) dX6_room_28 (by decide) ?_
      refine v_iload_n X (pc := 30) dX6_room_30 rfl 1 rfl ?_
      refine v_iadd X (pc := 31) dX6_room_31 ?_
      obtain ⟨g32, h⟩ := og h
      refine v_iald X (pc := 32) (v := ((μ 1) (Int32.toNatClampNeg (10 + x1)))) 1 rfl (ib_in g32) rfl dX6_room_32 ?_
      refine v_iload_n X (pc := 33) dX6_room_33 rfl 2 rfl ?_
      refine v_icmple X (pc := 34) (tgt := 40) dX6_room_34 (by decide) (fun c => ?_) (fun c => ?_)
      · replace h := hp c h
        refine v_aload_n X (pc := 40) dX6_room_40 rfl 0 rfl ?_
        obtain ⟨q41, e41, h⟩ := ob h
        refine v_callV X (pc := 41) (st1 := []) (w' := (wM x.g a q41)) [] [] (c_X6_records x.l x.g a μ e41) rfl rfl cw_X6_records q_713 q_715 q_20 ⟨by decide, by decide⟩ 0 6 rfl rfl rfl (Fr.all rfl) rfl (Nat.le_of_ble_eq_true rfl) dX6_room_41 ?_
        refine v_aload_n X (pc := 44) dX6_room_44 rfl 0 rfl ?_
        refine v_get X (pc := 45) (v := .ref (a 1)) uw6 0 rfl rfl 0 (by decide) q_668 rfl rfl dX6_room_45 ?_
        refine v_iconst X (pc := 48) (v := 4) dX6_room_48 (by decide) ?_
        refine v_iload_n X (pc := 49) dX6_room_49 rfl 1 rfl ?_
        refine v_iadd X (pc := 50) dX6_room_50 ?_
        obtain ⟨g51, h⟩ := og h
        refine v_iald X (pc := 51) (v := ((q41 1) (Int32.toNatClampNeg (4 + x1)))) 1 rfl (ib_in g51) rfl dX6_room_51 ?_
        refine v_istore_n X (pc := 52) (L2 := [(3, .int ((q41 1) (Int32.toNatClampNeg (4 + x1)))), (0, .ref (a 0)), (1, .int x1), (2, .int x2)]) dX6_room_52 rfl (by decide) rfl ?_
        refine v_aload_n X (pc := 53) dX6_room_53 rfl 1 rfl ?_
        refine v_get X (pc := 54) (v := .ref (a 1)) uw6 0 rfl rfl 0 (by decide) q_668 rfl rfl dX6_room_54 ?_
        refine v_iconst X (pc := 57) (v := 4) dX6_room_57 (by decide) ?_
        refine v_iload_n X (pc := 58) dX6_room_58 rfl 2 rfl ?_
        refine v_iadd X (pc := 59) dX6_room_59 ?_
        refine v_iload_n X (pc := 60) dX6_room_60 rfl 3 rfl ?_
        obtain ⟨g61, h⟩ := og h
        obtain ⟨m61, em61, h⟩ := lts h
        refine v_iast X (pc := 61) (w' := (wM x.g a m61)) 1 rfl (ib_in g61) (by rw [← em61]; rfl) dX6_room_61 ?_
        refine v_iload_n X (pc := 62) dX6_room_62 rfl 0 rfl ?_
        replace h := oi h
        subst h
        exact v_iret X (pc := 63) F dX6_room_63
      · replace h := hn c h
        refine v_ldc X (pc := 37) (v := (-100004)) q_739 dX6_room_37 ?_
        replace h := oi h
        subst h
        exact v_iret X (pc := 39) F dX6_room_39
    · replace h := hn (nbt c) h
      refine v_ldc X (pc := 21) (v := (-100002)) q_711 dX6_room_21 ?_
      replace h := oi h
      subst h
      exact v_iret X (pc := 23) F dX6_room_23
  · replace h := hn (nbt c) h
    refine v_ldc X (pc := 7) (v := (-100001)) q_710 dX6_room_7 ?_
    replace h := oi h
    subst h
    exact v_iret X (pc := 9) F dX6_room_9
theorem cw_X6_room : CwB yX6_room cX6_room 4 (Option.some FieldType.int) 2 := ⟨q_735, q_57, by decide, by decide, by decide +kernel⟩
def f_X6_isSlip (x0 : Int32) : Bool :=
  (if x0 = 0 then true else lt (f_X6_in x0 2 9) fun q8 => (if q8 = true then true else false))
set_option maxHeartbeats 4000000 in
set_option maxRecDepth 100000 in
theorem c_X6_isSlip (l : Launch) (g : Gl)  (x0 : Int32) {res : Bool} (h : f_X6_isSlip x0 = res) : Ok l g yX6_isSlip cX6_isSlip 1 (Option.some FieldType.boolean) 1 22 [.int x0] ([] : va_W) (some (.int (b2i res))) ([] : va_W) := by
  refine Ok.of RX6 (by decide) rfl (Nat.le_of_ble_eq_true rfl) (fun x hl hg X F => ?_)
  subst hg; subst hl
  rw [f_X6_isSlip] at h
  show V x ([] : va_W) [(0, .int x0)] [] 0
  refine v_iload_n X (pc := 0) dX6_isSlip_0 rfl 0 rfl ?_
  refine v_ifeq X (pc := 1) (tgt := 14) dX6_isSlip_1 (by decide) (fun c => ?_) (fun c => ?_)
  · replace h := hp c h
    refine v_iconst X (pc := 14) (v := 1) dX6_isSlip_14 (by decide) ?_
    refine v_goto X (pc := 15) (tgt := 19) dX6_isSlip_15 (by decide) ?_
    subst h
    exact v_bret X (pc := 19) (b := true) F dX6_isSlip_19
  · replace h := hn c h
    refine v_iload_n X (pc := 4) dX6_isSlip_4 rfl 0 rfl ?_
    refine v_iconst X (pc := 5) (v := 2) dX6_isSlip_5 (by decide) ?_
    refine v_bipush X (pc := 6) (v := 9) dX6_isSlip_6 (by decide) ?_
    obtain ⟨q8, e8, h⟩ := lts h
    refine v_callS X (pc := 8) (st1 := [.int (b2i q8)]) (w' := ([] : va_W)) [.int x0, .int 2, .int 9] [] (c_X6_in x.l x.g  x0 2 9 e8) rfl rfl cw_X6_in q_707 q_708 ⟨by decide, by decide⟩ Fr.nil rfl (Nat.le_of_ble_eq_true rfl) dX6_isSlip_8 ?_
    refine v_ifeqB X (pc := 11) (tgt := 18) dX6_isSlip_11 (by decide) (fun c => ?_) (fun c => ?_)
    · replace h := hn (nbt c) h
      refine v_iconst X (pc := 18) (v := 0) dX6_isSlip_18 (by decide) ?_
      subst h
      exact v_bret X (pc := 19) (b := false) F dX6_isSlip_19
    · replace h := hp c h
      refine v_iconst X (pc := 14) (v := 1) dX6_isSlip_14 (by decide) ?_
      refine v_goto X (pc := 15) (tgt := 19) dX6_isSlip_15 (by decide) ?_
      subst h
      exact v_bret X (pc := 19) (b := true) F dX6_isSlip_19
theorem cw_X6_isSlip : CwB yX6_isSlip cX6_isSlip 1 (Option.some FieldType.boolean) 1 := ⟨q_746, q_57, by decide, by decide, by decide +kernel⟩
def f_X6_slip (μ : Blk) (x1 : Int32) (x2 : Int32) (x3 : Int32) : Option (Int32 × Blk) :=
  lt (f_X6_isStile μ x1) fun q2 => (if q2 = true then lt (f_X6_in x2 0 3) fun q14 => (if q14 = true then lt (f_X6_isSlip x3) fun q21 => (if q21 = true then (f_X6_records μ).bind fun q31 => lt (f_X6_place 0 x1) fun q36 => (if ib (((q36 + 4) + (4 * x2)) + 1) 2048 = true then (if ib (((q36 + 4) + (4 * x2)) + 1) 2048 = true then lt (upR q31 1 (upd (q31 1) (Int32.toNatClampNeg (((q36 + 4) + (4 * x2)) + 1)) x3)) fun m67 => (if ib (((q36 + 4) + (4 * x2)) + 2) 2048 = true then lt (upR m67 1 (upd (m67 1) (Int32.toNatClampNeg (((q36 + 4) + (4 * x2)) + 2)) 0)) fun m77 => some (((q31 1) (Int32.toNatClampNeg (((q36 + 4) + (4 * x2)) + 1))), m77) else none) else none) else none) else some ((-100002), μ)) else some ((-100002), μ)) else some ((-100001), μ))
set_option maxHeartbeats 4000000 in
set_option maxRecDepth 100000 in
theorem c_X6_slip (l : Launch) (g : Gl) (a : Nat → Nat) (μ : Blk) (x1 : Int32) (x2 : Int32) (x3 : Int32) {res : Int32 × Blk} (h : f_X6_slip μ x1 x2 x3 = some res) : Ok l g yX6_slip cX6_slip 6 (Option.some FieldType.int) 2 44 [.ref (a 0), .int x1, .int x2, .int x3] (wM g a μ) (some (.int res.1)) (wM g a res.2) := by
  refine Ok.of RX6 (by decide) rfl (Nat.le_of_ble_eq_true rfl) (fun x hl hg X F => ?_)
  subst hg; subst hl
  rw [f_X6_slip] at h
  show V x (wM x.g a μ) [(0, .ref (a 0)), (1, .int x1), (2, .int x2), (3, .int x3)] [] 0
  refine v_aload_n X (pc := 0) dX6_slip_0 rfl 0 rfl ?_
  refine v_iload_n X (pc := 1) dX6_slip_1 rfl 1 rfl ?_
  obtain ⟨q2, e2, h⟩ := lts h
  refine v_callV X (pc := 2) (st1 := [.int (b2i q2)]) (w' := (wM x.g a μ)) [.int x1] [] (c_X6_isStile x.l x.g a μ x1 e2) rfl rfl cw_X6_isStile q_728 q_730 q_22 ⟨by decide, by decide⟩ 0 6 rfl rfl rfl (Fr.all rfl) rfl (Nat.le_of_ble_eq_true rfl) dX6_slip_2 ?_
  refine v_ifneB X (pc := 5) (tgt := 11) dX6_slip_5 (by decide) (fun c => ?_) (fun c => ?_)
  · replace h := hp c h
    refine v_iload_n X (pc := 11) dX6_slip_11 rfl 2 rfl ?_
    refine v_iconst X (pc := 12) (v := 0) dX6_slip_12 (by decide) ?_
    refine v_iconst X (pc := 13) (v := 3) dX6_slip_13 (by decide) ?_
    obtain ⟨q14, e14, h⟩ := lts h
    refine v_callS X (pc := 14) (st1 := [.int (b2i q14)]) (w' := (wM x.g a μ)) [.int x2, .int 0, .int 3] [] (c_X6_in x.l x.g  x2 0 3 e14) rfl rfl cw_X6_in q_707 q_708 ⟨by decide, by decide⟩ Fr.nil rfl (Nat.le_of_ble_eq_true rfl) dX6_slip_14 ?_
    refine v_ifeqB X (pc := 17) (tgt := 27) dX6_slip_17 (by decide) (fun c => ?_) (fun c => ?_)
    · replace h := hn (nbt c) h
      refine v_ldc X (pc := 27) (v := (-100002)) q_711 dX6_slip_27 ?_
      replace h := oi h
      subst h
      exact v_iret X (pc := 29) F dX6_slip_29
    · replace h := hp c h
      refine v_iload_n X (pc := 20) dX6_slip_20 rfl 3 rfl ?_
      obtain ⟨q21, e21, h⟩ := lts h
      refine v_callS X (pc := 21) (st1 := [.int (b2i q21)]) (w' := (wM x.g a μ)) [.int x3] [] (c_X6_isSlip x.l x.g  x3 e21) rfl rfl cw_X6_isSlip q_744 q_745 ⟨by decide, by decide⟩ Fr.nil rfl (Nat.le_of_ble_eq_true rfl) dX6_slip_21 ?_
      refine v_ifneB X (pc := 24) (tgt := 30) dX6_slip_24 (by decide) (fun c => ?_) (fun c => ?_)
      · replace h := hp c h
        refine v_aload_n X (pc := 30) dX6_slip_30 rfl 0 rfl ?_
        obtain ⟨q31, e31, h⟩ := ob h
        refine v_callV X (pc := 31) (st1 := []) (w' := (wM x.g a q31)) [] [] (c_X6_records x.l x.g a μ e31) rfl rfl cw_X6_records q_713 q_715 q_20 ⟨by decide, by decide⟩ 0 6 rfl rfl rfl (Fr.all rfl) rfl (Nat.le_of_ble_eq_true rfl) dX6_slip_31 ?_
        refine v_iconst X (pc := 34) (v := 0) dX6_slip_34 (by decide) ?_
        refine v_iload_n X (pc := 35) dX6_slip_35 rfl 1 rfl ?_
        obtain ⟨q36, e36, h⟩ := lts h
        refine v_callS X (pc := 36) (st1 := [.int q36]) (w' := (wM x.g a q31)) [.int 0, .int x1] [] (c_X6_place x.l x.g  0 x1 e36) rfl rfl cw_X6_place q_721 q_722 ⟨by decide, by decide⟩ Fr.nil rfl (Nat.le_of_ble_eq_true rfl) dX6_slip_36 ?_
        refine v_iconst X (pc := 39) (v := 4) dX6_slip_39 (by decide) ?_
        refine v_iadd X (pc := 40) dX6_slip_40 ?_
        refine v_iconst X (pc := 41) (v := 4) dX6_slip_41 (by decide) ?_
        refine v_iload_n X (pc := 42) dX6_slip_42 rfl 2 rfl ?_
        refine v_imul X (pc := 43) dX6_slip_43 ?_
        refine v_iadd X (pc := 44) dX6_slip_44 ?_
        refine v_istore X (pc := 45) (L2 := [(4, .int ((q36 + 4) + (4 * x2))), (0, .ref (a 0)), (1, .int x1), (2, .int x2), (3, .int x3)]) dX6_slip_45 (by decide) rfl ?_
        refine v_aload_n X (pc := 47) dX6_slip_47 rfl 1 rfl ?_
        refine v_get X (pc := 48) (v := .ref (a 1)) uw6 0 rfl rfl 0 (by decide) q_668 rfl rfl dX6_slip_48 ?_
        refine v_iload X (pc := 51) dX6_slip_51 0 rfl ?_
        refine v_iconst X (pc := 53) (v := 1) dX6_slip_53 (by decide) ?_
        refine v_iadd X (pc := 54) dX6_slip_54 ?_
        obtain ⟨g55, h⟩ := og h
        refine v_iald X (pc := 55) (v := ((q31 1) (Int32.toNatClampNeg (((q36 + 4) + (4 * x2)) + 1)))) 1 rfl (ib_in g55) rfl dX6_slip_55 ?_
        refine v_istore X (pc := 56) (L2 := [(5, .int ((q31 1) (Int32.toNatClampNeg (((q36 + 4) + (4 * x2)) + 1)))), (4, .int ((q36 + 4) + (4 * x2))), (0, .ref (a 0)), (1, .int x1), (2, .int x2), (3, .int x3)]) dX6_slip_56 (by decide) rfl ?_
        refine v_aload_n X (pc := 58) dX6_slip_58 rfl 2 rfl ?_
        refine v_get X (pc := 59) (v := .ref (a 1)) uw6 0 rfl rfl 0 (by decide) q_668 rfl rfl dX6_slip_59 ?_
        refine v_iload X (pc := 62) dX6_slip_62 1 rfl ?_
        refine v_iconst X (pc := 64) (v := 1) dX6_slip_64 (by decide) ?_
        refine v_iadd X (pc := 65) dX6_slip_65 ?_
        refine v_iload_n X (pc := 66) dX6_slip_66 rfl 5 rfl ?_
        obtain ⟨g67, h⟩ := og h
        obtain ⟨m67, em67, h⟩ := lts h
        refine v_iast X (pc := 67) (w' := (wM x.g a m67)) 1 rfl (ib_in g67) (by rw [← em67]; rfl) dX6_slip_67 ?_
        refine v_aload_n X (pc := 68) dX6_slip_68 rfl 2 rfl ?_
        refine v_get X (pc := 69) (v := .ref (a 1)) uw6 0 rfl rfl 0 (by decide) q_668 rfl rfl dX6_slip_69 ?_
        refine v_iload X (pc := 72) dX6_slip_72 1 rfl ?_
        refine v_iconst X (pc := 74) (v := 2) dX6_slip_74 (by decide) ?_
        refine v_iadd X (pc := 75) dX6_slip_75 ?_
        refine v_iconst X (pc := 76) (v := 0) dX6_slip_76 (by decide) ?_
        obtain ⟨g77, h⟩ := og h
        obtain ⟨m77, em77, h⟩ := lts h
        refine v_iast X (pc := 77) (w' := (wM x.g a m77)) 1 rfl (ib_in g77) (by rw [← em77]; rfl) dX6_slip_77 ?_
        refine v_iload X (pc := 78) dX6_slip_78 0 rfl ?_
        replace h := oi h
        subst h
        exact v_iret X (pc := 80) F dX6_slip_80
      · replace h := hn (nbt c) h
        refine v_ldc X (pc := 27) (v := (-100002)) q_711 dX6_slip_27 ?_
        replace h := oi h
        subst h
        exact v_iret X (pc := 29) F dX6_slip_29
  · replace h := hn (nbt c) h
    refine v_ldc X (pc := 8) (v := (-100001)) q_710 dX6_slip_8 ?_
    replace h := oi h
    subst h
    exact v_iret X (pc := 10) F dX6_slip_10
theorem cw_X6_slip : CwB yX6_slip cX6_slip 6 (Option.some FieldType.int) 3 := ⟨q_743, q_57, by decide, by decide, by decide +kernel⟩
def f_X6_wrong (μ : Blk) (x1 : Int32) (x2 : Bool) (x3 : Int32) : Option (Int32) :=
  lt (f_X6_isStile μ x1) fun q2 => (if q2 = true then lt (f_X6_in x3 1 99) fun q15 => (if q15 = true then (f_X6_why μ 0 x1 x2 x3).bind fun q29 => (if q29 ≤ 0 then some 0 else some ((-10) - q29)) else some (-100002)) else some (-100001))
set_option maxHeartbeats 4000000 in
set_option maxRecDepth 100000 in
theorem c_X6_wrong (l : Launch) (g : Gl) (a : Nat → Nat) (μ : Blk) (x1 : Int32) (x2 : Bool) (x3 : Int32) {res : Int32} (h : f_X6_wrong μ x1 x2 x3 = some res) : Ok l g yX6_wrong cX6_wrong 5 (Option.some FieldType.int) 2 51 [.ref (a 0), .int x1, .int (b2i x2), .int x3] (wM g a μ) (some (.int res)) (wM g a μ) := by
  refine Ok.of RX6 (by decide) rfl (Nat.le_of_ble_eq_true rfl) (fun x hl hg X F => ?_)
  subst hg; subst hl
  rw [f_X6_wrong] at h
  show V x (wM x.g a μ) [(0, .ref (a 0)), (1, .int x1), (2, .int (b2i x2)), (3, .int x3)] [] 0
  refine v_aload_n X (pc := 0) dX6_wrong_0 rfl 0 rfl ?_
  refine v_iload_n X (pc := 1) dX6_wrong_1 rfl 1 rfl ?_
  obtain ⟨q2, e2, h⟩ := lts h
  refine v_callV X (pc := 2) (st1 := [.int (b2i q2)]) (w' := (wM x.g a μ)) [.int x1] [] (c_X6_isStile x.l x.g a μ x1 e2) rfl rfl cw_X6_isStile q_728 q_730 q_22 ⟨by decide, by decide⟩ 0 6 rfl rfl rfl (Fr.all rfl) rfl (Nat.le_of_ble_eq_true rfl) dX6_wrong_2 ?_
  refine v_ifneB X (pc := 5) (tgt := 11) dX6_wrong_5 (by decide) (fun c => ?_) (fun c => ?_)
  · replace h := hp c h
    refine v_iload_n X (pc := 11) dX6_wrong_11 rfl 3 rfl ?_
    refine v_iconst X (pc := 12) (v := 1) dX6_wrong_12 (by decide) ?_
    refine v_bipush X (pc := 13) (v := 99) dX6_wrong_13 (by decide) ?_
    obtain ⟨q15, e15, h⟩ := lts h
    refine v_callS X (pc := 15) (st1 := [.int (b2i q15)]) (w' := (wM x.g a μ)) [.int x3, .int 1, .int 99] [] (c_X6_in x.l x.g  x3 1 99 e15) rfl rfl cw_X6_in q_707 q_708 ⟨by decide, by decide⟩ Fr.nil rfl (Nat.le_of_ble_eq_true rfl) dX6_wrong_15 ?_
    refine v_ifneB X (pc := 18) (tgt := 24) dX6_wrong_18 (by decide) (fun c => ?_) (fun c => ?_)
    · replace h := hp c h
      refine v_aload_n X (pc := 24) dX6_wrong_24 rfl 0 rfl ?_
      refine v_iconst X (pc := 25) (v := 0) dX6_wrong_25 (by decide) ?_
      refine v_iload_n X (pc := 26) dX6_wrong_26 rfl 1 rfl ?_
      refine v_iload_n X (pc := 27) dX6_wrong_27 rfl 2 rfl ?_
      refine v_iload_n X (pc := 28) dX6_wrong_28 rfl 3 rfl ?_
      obtain ⟨q29, e29, h⟩ := ob h
      refine v_callV X (pc := 29) (st1 := [.int q29]) (w' := (wM x.g a μ)) [.int 0, .int x1, .int (b2i x2), .int x3] [] (c_X6_why x.l x.g a μ 0 x1 x2 x3 e29) rfl rfl cw_X6_why q_755 q_757 q_24 ⟨by decide, by decide⟩ 0 6 rfl rfl rfl (Fr.all rfl) rfl (Nat.le_of_ble_eq_true rfl) dX6_wrong_29 ?_
      refine v_istore X (pc := 32) (L2 := [(4, .int q29), (0, .ref (a 0)), (1, .int x1), (2, .int (b2i x2)), (3, .int x3)]) dX6_wrong_32 (by decide) rfl ?_
      refine v_iload X (pc := 34) dX6_wrong_34 0 rfl ?_
      refine v_ifle X (pc := 36) (tgt := 47) dX6_wrong_36 (by decide) (fun c => ?_) (fun c => ?_)
      · replace h := hp c h
        refine v_iconst X (pc := 47) (v := 0) dX6_wrong_47 (by decide) ?_
        replace h := oi h
        subst h
        exact v_iret X (pc := 48) F dX6_wrong_48
      · replace h := hn c h
        refine v_bipush X (pc := 39) (v := (-10)) dX6_wrong_39 (by decide) ?_
        refine v_iload X (pc := 41) dX6_wrong_41 0 rfl ?_
        refine v_isub X (pc := 43) dX6_wrong_43 ?_
        refine v_goto X (pc := 44) (tgt := 48) dX6_wrong_44 (by decide) ?_
        replace h := oi h
        subst h
        exact v_iret X (pc := 48) F dX6_wrong_48
    · replace h := hn (nbt c) h
      refine v_ldc X (pc := 21) (v := (-100002)) q_711 dX6_wrong_21 ?_
      replace h := oi h
      subst h
      exact v_iret X (pc := 23) F dX6_wrong_23
  · replace h := hn (nbt c) h
    refine v_ldc X (pc := 8) (v := (-100001)) q_710 dX6_wrong_8 ?_
    replace h := oi h
    subst h
    exact v_iret X (pc := 10) F dX6_wrong_10
theorem cw_X6_wrong : CwB yX6_wrong cX6_wrong 5 (Option.some FieldType.int) 3 := ⟨q_754, q_57, by decide, by decide, by decide +kernel⟩
def f_X6_pass (μ : Blk) (x1 : Int32) (x2 : Bool) (x3 : Int32) : Option (Int32 × Blk) :=
  (f_X6_wrong μ x1 x2 x3).bind fun q4 => (if 0 ≤ q4 then (f_X6_records μ).bind fun q18 => (f_X6_passes q18 0 x1 x2 x3).bind fun q26 => (f_X6_gap q26 x1).bind fun q31 => some (q31, q26) else some (q4, μ))
set_option maxHeartbeats 4000000 in
set_option maxRecDepth 100000 in
theorem c_X6_pass (l : Launch) (g : Gl) (a : Nat → Nat) (μ : Blk) (x1 : Int32) (x2 : Bool) (x3 : Int32) {res : Int32 × Blk} (h : f_X6_pass μ x1 x2 x3 = some res) : Ok l g yX6_pass cX6_pass 5 (Option.some FieldType.int) 3 75 [.ref (a 0), .int x1, .int (b2i x2), .int x3] (wM g a μ) (some (.int res.1)) (wM g a res.2) := by
  refine Ok.of RX6 (by decide) rfl (Nat.le_of_ble_eq_true rfl) (fun x hl hg X F => ?_)
  subst hg; subst hl
  rw [f_X6_pass] at h
  show V x (wM x.g a μ) [(0, .ref (a 0)), (1, .int x1), (2, .int (b2i x2)), (3, .int x3)] [] 0
  refine v_aload_n X (pc := 0) dX6_pass_0 rfl 0 rfl ?_
  refine v_iload_n X (pc := 1) dX6_pass_1 rfl 1 rfl ?_
  refine v_iload_n X (pc := 2) dX6_pass_2 rfl 2 rfl ?_
  refine v_iload_n X (pc := 3) dX6_pass_3 rfl 3 rfl ?_
  obtain ⟨q4, e4, h⟩ := ob h
  refine v_callV X (pc := 4) (st1 := [.int q4]) (w' := (wM x.g a μ)) [.int x1, .int (b2i x2), .int x3] [] (c_X6_wrong x.l x.g a μ x1 x2 x3 e4) rfl rfl cw_X6_wrong q_751 q_753 q_23 ⟨by decide, by decide⟩ 0 6 rfl rfl rfl (Fr.all rfl) rfl (Nat.le_of_ble_eq_true rfl) dX6_pass_4 ?_
  refine v_istore X (pc := 7) (L2 := [(4, .int q4), (0, .ref (a 0)), (1, .int x1), (2, .int (b2i x2)), (3, .int x3)]) dX6_pass_7 (by decide) rfl ?_
  refine v_iload X (pc := 9) dX6_pass_9 0 rfl ?_
  refine v_ifge X (pc := 11) (tgt := 17) dX6_pass_11 (by decide) (fun c => ?_) (fun c => ?_)
  · replace h := hp c h
    refine v_aload_n X (pc := 17) dX6_pass_17 rfl 1 rfl ?_
    obtain ⟨q18, e18, h⟩ := ob h
    refine v_callV X (pc := 18) (st1 := []) (w' := (wM x.g a q18)) [] [] (c_X6_records x.l x.g a μ e18) rfl rfl cw_X6_records q_713 q_715 q_20 ⟨by decide, by decide⟩ 0 6 rfl rfl rfl (Fr.all rfl) rfl (Nat.le_of_ble_eq_true rfl) dX6_pass_18 ?_
    refine v_aload_n X (pc := 21) dX6_pass_21 rfl 1 rfl ?_
    refine v_iconst X (pc := 22) (v := 0) dX6_pass_22 (by decide) ?_
    refine v_iload_n X (pc := 23) dX6_pass_23 rfl 2 rfl ?_
    refine v_iload_n X (pc := 24) dX6_pass_24 rfl 3 rfl ?_
    refine v_iload_n X (pc := 25) dX6_pass_25 rfl 4 rfl ?_
    obtain ⟨q26, e26, h⟩ := ob h
    refine v_callV X (pc := 26) (st1 := []) (w' := (wM x.g a q26)) [.int 0, .int x1, .int (b2i x2), .int x3] [] (c_X6_passes x.l x.g a q18 0 x1 x2 x3 e26) rfl rfl cw_X6_passes q_771 q_773 q_28 ⟨by decide, by decide⟩ 0 6 rfl rfl rfl (Fr.all rfl) rfl (Nat.le_of_ble_eq_true rfl) dX6_pass_26 ?_
    refine v_aload_n X (pc := 29) dX6_pass_29 rfl 1 rfl ?_
    refine v_iload_n X (pc := 30) dX6_pass_30 rfl 2 rfl ?_
    obtain ⟨q31, e31, h⟩ := ob h
    refine v_callV X (pc := 31) (st1 := [.int q31]) (w' := (wM x.g a q26)) [.int x1] [] (c_X6_gap x.l x.g a q26 x1 e31) rfl rfl cw_X6_gap q_779 q_781 q_30 ⟨by decide, by decide⟩ 0 6 rfl rfl rfl (Fr.all rfl) rfl (Nat.le_of_ble_eq_true rfl) dX6_pass_31 ?_
    replace h := oi h
    subst h
    exact v_iret X (pc := 34) F dX6_pass_34
  · replace h := hn c h
    refine v_iload X (pc := 14) dX6_pass_14 0 rfl ?_
    replace h := oi h
    subst h
    exact v_iret X (pc := 16) F dX6_pass_16
theorem cw_X6_pass : CwB yX6_pass cX6_pass 5 (Option.some FieldType.int) 3 := ⟨q_750, q_57, by decide, by decide, by decide +kernel⟩
def f_X6_audits (μ : Blk) (x1 : Int32) : Option (Blk) :=
  lt (f_X6_place 0 x1) fun q2 => (if ib (q2 + 4) 2048 = true then (if ib ((q2 + 4) + 12) 2048 = true then (if ((μ 1) (Int32.toNatClampNeg (q2 + 4))) ≤ ((μ 1) (Int32.toNatClampNeg ((q2 + 4) + 12))) then (if ib ((q2 + 4) + 12) 2048 = true then (if ib ((q2 + 4) + 4) 2048 = true then (if ib ((q2 + 4) + 8) 2048 = true then (if ((μ 1) (Int32.toNatClampNeg ((q2 + 4) + 4))) ≤ ((μ 1) (Int32.toNatClampNeg ((q2 + 4) + 8))) then (if ib ((q2 + 4) + 8) 2048 = true then (if ib (q2 + 4) 2048 = true then lt (upR μ 1 (upd (μ 1) (Int32.toNatClampNeg (q2 + 4)) ((μ 1) (Int32.toNatClampNeg ((q2 + 4) + 12))))) fun m93 => (if ib ((q2 + 4) + 12) 2048 = true then lt (upR m93 1 (upd (m93 1) (Int32.toNatClampNeg ((q2 + 4) + 12)) ((μ 1) (Int32.toNatClampNeg ((q2 + 4) + 12))))) fun m103 => (if ib ((q2 + 4) + 4) 2048 = true then lt (upR m103 1 (upd (m103 1) (Int32.toNatClampNeg ((q2 + 4) + 4)) ((μ 1) (Int32.toNatClampNeg ((q2 + 4) + 8))))) fun m113 => (if ib ((q2 + 4) + 8) 2048 = true then lt (upR m113 1 (upd (m113 1) (Int32.toNatClampNeg ((q2 + 4) + 8)) ((μ 1) (Int32.toNatClampNeg ((q2 + 4) + 8))))) fun m124 => some m124 else none) else none) else none) else none) else none) else (if ib ((q2 + 4) + 4) 2048 = true then (if ib (q2 + 4) 2048 = true then lt (upR μ 1 (upd (μ 1) (Int32.toNatClampNeg (q2 + 4)) ((μ 1) (Int32.toNatClampNeg ((q2 + 4) + 12))))) fun m93 => (if ib ((q2 + 4) + 12) 2048 = true then lt (upR m93 1 (upd (m93 1) (Int32.toNatClampNeg ((q2 + 4) + 12)) ((μ 1) (Int32.toNatClampNeg ((q2 + 4) + 12))))) fun m103 => (if ib ((q2 + 4) + 4) 2048 = true then lt (upR m103 1 (upd (m103 1) (Int32.toNatClampNeg ((q2 + 4) + 4)) ((μ 1) (Int32.toNatClampNeg ((q2 + 4) + 4))))) fun m113 => (if ib ((q2 + 4) + 8) 2048 = true then lt (upR m113 1 (upd (m113 1) (Int32.toNatClampNeg ((q2 + 4) + 8)) ((μ 1) (Int32.toNatClampNeg ((q2 + 4) + 4))))) fun m124 => some m124 else none) else none) else none) else none) else none)) else none) else none) else none) else (if ib (q2 + 4) 2048 = true then (if ib ((q2 + 4) + 4) 2048 = true then (if ib ((q2 + 4) + 8) 2048 = true then (if ((μ 1) (Int32.toNatClampNeg ((q2 + 4) + 4))) ≤ ((μ 1) (Int32.toNatClampNeg ((q2 + 4) + 8))) then (if ib ((q2 + 4) + 8) 2048 = true then (if ib (q2 + 4) 2048 = true then lt (upR μ 1 (upd (μ 1) (Int32.toNatClampNeg (q2 + 4)) ((μ 1) (Int32.toNatClampNeg (q2 + 4))))) fun m93 => (if ib ((q2 + 4) + 12) 2048 = true then lt (upR m93 1 (upd (m93 1) (Int32.toNatClampNeg ((q2 + 4) + 12)) ((μ 1) (Int32.toNatClampNeg (q2 + 4))))) fun m103 => (if ib ((q2 + 4) + 4) 2048 = true then lt (upR m103 1 (upd (m103 1) (Int32.toNatClampNeg ((q2 + 4) + 4)) ((μ 1) (Int32.toNatClampNeg ((q2 + 4) + 8))))) fun m113 => (if ib ((q2 + 4) + 8) 2048 = true then lt (upR m113 1 (upd (m113 1) (Int32.toNatClampNeg ((q2 + 4) + 8)) ((μ 1) (Int32.toNatClampNeg ((q2 + 4) + 8))))) fun m124 => some m124 else none) else none) else none) else none) else none) else (if ib ((q2 + 4) + 4) 2048 = true then (if ib (q2 + 4) 2048 = true then lt (upR μ 1 (upd (μ 1) (Int32.toNatClampNeg (q2 + 4)) ((μ 1) (Int32.toNatClampNeg (q2 + 4))))) fun m93 => (if ib ((q2 + 4) + 12) 2048 = true then lt (upR m93 1 (upd (m93 1) (Int32.toNatClampNeg ((q2 + 4) + 12)) ((μ 1) (Int32.toNatClampNeg (q2 + 4))))) fun m103 => (if ib ((q2 + 4) + 4) 2048 = true then lt (upR m103 1 (upd (m103 1) (Int32.toNatClampNeg ((q2 + 4) + 4)) ((μ 1) (Int32.toNatClampNeg ((q2 + 4) + 4))))) fun m113 => (if ib ((q2 + 4) + 8) 2048 = true then lt (upR m113 1 (upd (m113 1) (Int32.toNatClampNeg ((q2 + 4) + 8)) ((μ 1) (Int32.toNatClampNeg ((q2 + 4) + 4))))) fun m124 => some m124 else none) else none) else none) else none) else none)) else none) else none) else none)) else none) else none)
set_option maxHeartbeats 4000000 in
set_option maxRecDepth 100000 in
theorem c_X6_audits (l : Launch) (g : Gl) (a : Nat → Nat) (μ : Blk) (x1 : Int32) {res : Blk} (h : f_X6_audits μ x1 = some res) : Ok l g yX6_audits cX6_audits 5 (Option.none : Option FieldType) 1 21 [.ref (a 0), .int x1] (wM g a μ) none (wM g a res) := by
  refine Ok.of RX6 (by decide) rfl (Nat.le_of_ble_eq_true rfl) (fun x hl hg X F => ?_)
  subst hg; subst hl
  rw [f_X6_audits] at h
  show V x (wM x.g a μ) [(0, .ref (a 0)), (1, .int x1)] [] 0
  refine v_iconst X (pc := 0) (v := 0) dX6_audits_0 (by decide) ?_
  refine v_iload_n X (pc := 1) dX6_audits_1 rfl 1 rfl ?_
  obtain ⟨q2, e2, h⟩ := lts h
  refine v_callS X (pc := 2) (st1 := [.int q2]) (w' := (wM x.g a μ)) [.int 0, .int x1] [] (c_X6_place x.l x.g  0 x1 e2) rfl rfl cw_X6_place q_721 q_722 ⟨by decide, by decide⟩ Fr.nil rfl (Nat.le_of_ble_eq_true rfl) dX6_audits_2 ?_
  refine v_iconst X (pc := 5) (v := 4) dX6_audits_5 (by decide) ?_
  refine v_iadd X (pc := 6) dX6_audits_6 ?_
  refine v_istore_n X (pc := 7) (L2 := [(2, .int (q2 + 4)), (0, .ref (a 0)), (1, .int x1)]) dX6_audits_7 rfl (by decide) rfl ?_
  refine v_aload_n X (pc := 8) dX6_audits_8 rfl 1 rfl ?_
  refine v_get X (pc := 9) (v := .ref (a 1)) uw6 0 rfl rfl 0 (by decide) q_668 rfl rfl dX6_audits_9 ?_
  refine v_iload_n X (pc := 12) dX6_audits_12 rfl 0 rfl ?_
  obtain ⟨g13, h⟩ := og h
  refine v_iald X (pc := 13) (v := ((μ 1) (Int32.toNatClampNeg (q2 + 4)))) 1 rfl (ib_in g13) rfl dX6_audits_13 ?_
  refine v_aload_n X (pc := 14) dX6_audits_14 rfl 1 rfl ?_
  refine v_get X (pc := 15) (v := .ref (a 1)) uw6 0 rfl rfl 0 (by decide) q_668 rfl rfl dX6_audits_15 ?_
  refine v_iload_n X (pc := 18) dX6_audits_18 rfl 0 rfl ?_
  refine v_bipush X (pc := 19) (v := 12) dX6_audits_19 (by decide) ?_
  refine v_iadd X (pc := 21) dX6_audits_21 ?_
  obtain ⟨g22, h⟩ := og h
  refine v_iald X (pc := 22) (v := ((μ 1) (Int32.toNatClampNeg ((q2 + 4) + 12)))) 1 rfl (ib_in g22) rfl dX6_audits_22 ?_
  refine v_icmple X (pc := 23) (tgt := 35) dX6_audits_23 (by decide) (fun c => ?_) (fun c => ?_)
  · replace h := hp c h
    refine v_aload_n X (pc := 35) dX6_audits_35 rfl 1 rfl ?_
    refine v_get X (pc := 36) (v := .ref (a 1)) uw6 0 rfl rfl 0 (by decide) q_668 rfl rfl dX6_audits_36 ?_
    refine v_iload_n X (pc := 39) dX6_audits_39 rfl 0 rfl ?_
    refine v_bipush X (pc := 40) (v := 12) dX6_audits_40 (by decide) ?_
    refine v_iadd X (pc := 42) dX6_audits_42 ?_
    obtain ⟨g43, h⟩ := og h
    refine v_iald X (pc := 43) (v := ((μ 1) (Int32.toNatClampNeg ((q2 + 4) + 12)))) 1 rfl (ib_in g43) rfl dX6_audits_43 ?_
    refine v_istore_n X (pc := 44) (L2 := [(3, .int ((μ 1) (Int32.toNatClampNeg ((q2 + 4) + 12)))), (2, .int (q2 + 4)), (0, .ref (a 0)), (1, .int x1)]) dX6_audits_44 rfl (by decide) rfl ?_
    refine v_aload_n X (pc := 45) dX6_audits_45 rfl 2 rfl ?_
    refine v_get X (pc := 46) (v := .ref (a 1)) uw6 0 rfl rfl 0 (by decide) q_668 rfl rfl dX6_audits_46 ?_
    refine v_iload_n X (pc := 49) dX6_audits_49 rfl 1 rfl ?_
    refine v_iconst X (pc := 50) (v := 4) dX6_audits_50 (by decide) ?_
    refine v_iadd X (pc := 51) dX6_audits_51 ?_
    obtain ⟨g52, h⟩ := og h
    refine v_iald X (pc := 52) (v := ((μ 1) (Int32.toNatClampNeg ((q2 + 4) + 4)))) 1 rfl (ib_in g52) rfl dX6_audits_52 ?_
    refine v_aload_n X (pc := 53) dX6_audits_53 rfl 2 rfl ?_
    refine v_get X (pc := 54) (v := .ref (a 1)) uw6 0 rfl rfl 0 (by decide) q_668 rfl rfl dX6_audits_54 ?_
    refine v_iload_n X (pc := 57) dX6_audits_57 rfl 1 rfl ?_
    refine v_bipush X (pc := 58) (v := 8) dX6_audits_58 (by decide) ?_
    refine v_iadd X (pc := 60) dX6_audits_60 ?_
    obtain ⟨g61, h⟩ := og h
    refine v_iald X (pc := 61) (v := ((μ 1) (Int32.toNatClampNeg ((q2 + 4) + 8)))) 1 rfl (ib_in g61) rfl dX6_audits_61 ?_
    refine v_icmple X (pc := 62) (tgt := 76) dX6_audits_62 (by decide) (fun c => ?_) (fun c => ?_)
    · replace h := hp c h
      refine v_aload_n X (pc := 76) dX6_audits_76 rfl 2 rfl ?_
      refine v_get X (pc := 77) (v := .ref (a 1)) uw6 0 rfl rfl 0 (by decide) q_668 rfl rfl dX6_audits_77 ?_
      refine v_iload_n X (pc := 80) dX6_audits_80 rfl 1 rfl ?_
      refine v_bipush X (pc := 81) (v := 8) dX6_audits_81 (by decide) ?_
      refine v_iadd X (pc := 83) dX6_audits_83 ?_
      obtain ⟨g84, h⟩ := og h
      refine v_iald X (pc := 84) (v := ((μ 1) (Int32.toNatClampNeg ((q2 + 4) + 8)))) 1 rfl (ib_in g84) rfl dX6_audits_84 ?_
      refine v_istore X (pc := 85) (L2 := [(4, .int ((μ 1) (Int32.toNatClampNeg ((q2 + 4) + 8)))), (3, .int ((μ 1) (Int32.toNatClampNeg ((q2 + 4) + 12)))), (2, .int (q2 + 4)), (0, .ref (a 0)), (1, .int x1)]) dX6_audits_85 (by decide) rfl ?_
      refine v_aload_n X (pc := 87) dX6_audits_87 rfl 3 rfl ?_
      refine v_get X (pc := 88) (v := .ref (a 1)) uw6 0 rfl rfl 0 (by decide) q_668 rfl rfl dX6_audits_88 ?_
      refine v_iload_n X (pc := 91) dX6_audits_91 rfl 2 rfl ?_
      refine v_iload_n X (pc := 92) dX6_audits_92 rfl 1 rfl ?_
      obtain ⟨g93, h⟩ := og h
      obtain ⟨m93, em93, h⟩ := lts h
      refine v_iast X (pc := 93) (w' := (wM x.g a m93)) 1 rfl (ib_in g93) (by rw [← em93]; rfl) dX6_audits_93 ?_
      refine v_aload_n X (pc := 94) dX6_audits_94 rfl 3 rfl ?_
      refine v_get X (pc := 95) (v := .ref (a 1)) uw6 0 rfl rfl 0 (by decide) q_668 rfl rfl dX6_audits_95 ?_
      refine v_iload_n X (pc := 98) dX6_audits_98 rfl 2 rfl ?_
      refine v_bipush X (pc := 99) (v := 12) dX6_audits_99 (by decide) ?_
      refine v_iadd X (pc := 101) dX6_audits_101 ?_
      refine v_iload_n X (pc := 102) dX6_audits_102 rfl 1 rfl ?_
      obtain ⟨g103, h⟩ := og h
      obtain ⟨m103, em103, h⟩ := lts h
      refine v_iast X (pc := 103) (w' := (wM x.g a m103)) 1 rfl (ib_in g103) (by rw [← em103]; rfl) dX6_audits_103 ?_
      refine v_aload_n X (pc := 104) dX6_audits_104 rfl 3 rfl ?_
      refine v_get X (pc := 105) (v := .ref (a 1)) uw6 0 rfl rfl 0 (by decide) q_668 rfl rfl dX6_audits_105 ?_
      refine v_iload_n X (pc := 108) dX6_audits_108 rfl 2 rfl ?_
      refine v_iconst X (pc := 109) (v := 4) dX6_audits_109 (by decide) ?_
      refine v_iadd X (pc := 110) dX6_audits_110 ?_
      refine v_iload X (pc := 111) dX6_audits_111 0 rfl ?_
      obtain ⟨g113, h⟩ := og h
      obtain ⟨m113, em113, h⟩ := lts h
      refine v_iast X (pc := 113) (w' := (wM x.g a m113)) 1 rfl (ib_in g113) (by rw [← em113]; rfl) dX6_audits_113 ?_
      refine v_aload_n X (pc := 114) dX6_audits_114 rfl 3 rfl ?_
      refine v_get X (pc := 115) (v := .ref (a 1)) uw6 0 rfl rfl 0 (by decide) q_668 rfl rfl dX6_audits_115 ?_
      refine v_iload_n X (pc := 118) dX6_audits_118 rfl 2 rfl ?_
      refine v_bipush X (pc := 119) (v := 8) dX6_audits_119 (by decide) ?_
      refine v_iadd X (pc := 121) dX6_audits_121 ?_
      refine v_iload X (pc := 122) dX6_audits_122 0 rfl ?_
      obtain ⟨g124, h⟩ := og h
      obtain ⟨m124, em124, h⟩ := lts h
      refine v_iast X (pc := 124) (w' := (wM x.g a m124)) 1 rfl (ib_in g124) (by rw [← em124]; rfl) dX6_audits_124 ?_
      replace h := oi h
      subst h
      exact v_vret X (pc := 125) F dX6_audits_125
    · replace h := hn c h
      refine v_aload_n X (pc := 65) dX6_audits_65 rfl 2 rfl ?_
      refine v_get X (pc := 66) (v := .ref (a 1)) uw6 0 rfl rfl 0 (by decide) q_668 rfl rfl dX6_audits_66 ?_
      refine v_iload_n X (pc := 69) dX6_audits_69 rfl 1 rfl ?_
      refine v_iconst X (pc := 70) (v := 4) dX6_audits_70 (by decide) ?_
      refine v_iadd X (pc := 71) dX6_audits_71 ?_
      obtain ⟨g72, h⟩ := og h
      refine v_iald X (pc := 72) (v := ((μ 1) (Int32.toNatClampNeg ((q2 + 4) + 4)))) 1 rfl (ib_in g72) rfl dX6_audits_72 ?_
      refine v_goto X (pc := 73) (tgt := 85) dX6_audits_73 (by decide) ?_
      refine v_istore X (pc := 85) (L2 := [(4, .int ((μ 1) (Int32.toNatClampNeg ((q2 + 4) + 4)))), (3, .int ((μ 1) (Int32.toNatClampNeg ((q2 + 4) + 12)))), (2, .int (q2 + 4)), (0, .ref (a 0)), (1, .int x1)]) dX6_audits_85 (by decide) rfl ?_
      refine v_aload_n X (pc := 87) dX6_audits_87 rfl 3 rfl ?_
      refine v_get X (pc := 88) (v := .ref (a 1)) uw6 0 rfl rfl 0 (by decide) q_668 rfl rfl dX6_audits_88 ?_
      refine v_iload_n X (pc := 91) dX6_audits_91 rfl 2 rfl ?_
      refine v_iload_n X (pc := 92) dX6_audits_92 rfl 1 rfl ?_
      obtain ⟨g93, h⟩ := og h
      obtain ⟨m93, em93, h⟩ := lts h
      refine v_iast X (pc := 93) (w' := (wM x.g a m93)) 1 rfl (ib_in g93) (by rw [← em93]; rfl) dX6_audits_93 ?_
      refine v_aload_n X (pc := 94) dX6_audits_94 rfl 3 rfl ?_
      refine v_get X (pc := 95) (v := .ref (a 1)) uw6 0 rfl rfl 0 (by decide) q_668 rfl rfl dX6_audits_95 ?_
      refine v_iload_n X (pc := 98) dX6_audits_98 rfl 2 rfl ?_
      refine v_bipush X (pc := 99) (v := 12) dX6_audits_99 (by decide) ?_
      refine v_iadd X (pc := 101) dX6_audits_101 ?_
      refine v_iload_n X (pc := 102) dX6_audits_102 rfl 1 rfl ?_
      obtain ⟨g103, h⟩ := og h
      obtain ⟨m103, em103, h⟩ := lts h
      refine v_iast X (pc := 103) (w' := (wM x.g a m103)) 1 rfl (ib_in g103) (by rw [← em103]; rfl) dX6_audits_103 ?_
      refine v_aload_n X (pc := 104) dX6_audits_104 rfl 3 rfl ?_
      refine v_get X (pc := 105) (v := .ref (a 1)) uw6 0 rfl rfl 0 (by decide) q_668 rfl rfl dX6_audits_105 ?_
      refine v_iload_n X (pc := 108) dX6_audits_108 rfl 2 rfl ?_
      refine v_iconst X (pc := 109) (v := 4) dX6_audits_109 (by decide) ?_
      refine v_iadd X (pc := 110) dX6_audits_110 ?_
      refine v_iload X (pc := 111) dX6_audits_111 0 rfl ?_
      obtain ⟨g113, h⟩ := og h
      obtain ⟨m113, em113, h⟩ := lts h
      refine v_iast X (pc := 113) (w' := (wM x.g a m113)) 1 rfl (ib_in g113) (by rw [← em113]; rfl) dX6_audits_113 ?_
      refine v_aload_n X (pc := 114) dX6_audits_114 rfl 3 rfl ?_
      refine v_get X (pc := 115) (v := .ref (a 1)) uw6 0 rfl rfl 0 (by decide) q_668 rfl rfl dX6_audits_115 ?_
      refine v_iload_n X (pc := 118) dX6_audits_118 rfl 2 rfl ?_
      refine v_bipush X (pc := 119) (v := 8) dX6_audits_119 (by decide) ?_
      refine v_iadd X (pc := 121) dX6_audits_121 ?_
      refine v_iload X (pc := 122) dX6_audits_122 0 rfl ?_
      obtain ⟨g124, h⟩ := og h
      obtain ⟨m124, em124, h⟩ := lts h
      refine v_iast X (pc := 124) (w' := (wM x.g a m124)) 1 rfl (ib_in g124) (by rw [← em124]; rfl) dX6_audits_124 ?_
      replace h := oi h
      subst h
      exact v_vret X (pc := 125) F dX6_audits_125
  · replace h := hn c h
    refine v_aload_n X (pc := 26) dX6_audits_26 rfl 1 rfl ?_
    refine v_get X (pc := 27) (v := .ref (a 1)) uw6 0 rfl rfl 0 (by decide) q_668 rfl rfl dX6_audits_27 ?_
    refine v_iload_n X (pc := 30) dX6_audits_30 rfl 0 rfl ?_
    obtain ⟨g31, h⟩ := og h
    refine v_iald X (pc := 31) (v := ((μ 1) (Int32.toNatClampNeg (q2 + 4)))) 1 rfl (ib_in g31) rfl dX6_audits_31 ?_
    refine v_goto X (pc := 32) (tgt := 44) dX6_audits_32 (by decide) ?_
    refine v_istore_n X (pc := 44) (L2 := [(3, .int ((μ 1) (Int32.toNatClampNeg (q2 + 4)))), (2, .int (q2 + 4)), (0, .ref (a 0)), (1, .int x1)]) dX6_audits_44 rfl (by decide) rfl ?_
    refine v_aload_n X (pc := 45) dX6_audits_45 rfl 2 rfl ?_
    refine v_get X (pc := 46) (v := .ref (a 1)) uw6 0 rfl rfl 0 (by decide) q_668 rfl rfl dX6_audits_46 ?_
    refine v_iload_n X (pc := 49) dX6_audits_49 rfl 1 rfl ?_
    refine v_iconst X (pc := 50) (v := 4) dX6_audits_50 (by decide) ?_
    refine v_iadd X (pc := 51) dX6_audits_51 ?_
    obtain ⟨g52, h⟩ := og h
    refine v_iald X (pc := 52) (v := ((μ 1) (Int32.toNatClampNeg ((q2 + 4) + 4)))) 1 rfl (ib_in g52) rfl dX6_audits_52 ?_
    refine v_aload_n X (pc := 53) dX6_audits_53 rfl 2 rfl ?_
    refine v_get X (pc := 54) (v := .ref (a 1)) uw6 0 rfl rfl 0 (by decide) q_668 rfl rfl dX6_audits_54 ?_
    refine v_iload_n X (pc := 57) dX6_audits_57 rfl 1 rfl ?_
    refine v_bipush X (pc := 58) (v := 8) dX6_audits_58 (by decide) ?_
    refine v_iadd X (pc := 60) dX6_audits_60 ?_
    obtain ⟨g61, h⟩ := og h
    refine v_iald X (pc := 61) (v := ((μ 1) (Int32.toNatClampNeg ((q2 + 4) + 8)))) 1 rfl (ib_in g61) rfl dX6_audits_61 ?_
    refine v_icmple X (pc := 62) (tgt := 76) dX6_audits_62 (by decide) (fun c => ?_) (fun c => ?_)
    · replace h := hp c h
      refine v_aload_n X (pc := 76) dX6_audits_76 rfl 2 rfl ?_
      refine v_get X (pc := 77) (v := .ref (a 1)) uw6 0 rfl rfl 0 (by decide) q_668 rfl rfl dX6_audits_77 ?_
      refine v_iload_n X (pc := 80) dX6_audits_80 rfl 1 rfl ?_
      refine v_bipush X (pc := 81) (v := 8) dX6_audits_81 (by decide) ?_
      refine v_iadd X (pc := 83) dX6_audits_83 ?_
      obtain ⟨g84, h⟩ := og h
      refine v_iald X (pc := 84) (v := ((μ 1) (Int32.toNatClampNeg ((q2 + 4) + 8)))) 1 rfl (ib_in g84) rfl dX6_audits_84 ?_
      refine v_istore X (pc := 85) (L2 := [(4, .int ((μ 1) (Int32.toNatClampNeg ((q2 + 4) + 8)))), (3, .int ((μ 1) (Int32.toNatClampNeg (q2 + 4)))), (2, .int (q2 + 4)), (0, .ref (a 0)), (1, .int x1)]) dX6_audits_85 (by decide) rfl ?_
      refine v_aload_n X (pc := 87) dX6_audits_87 rfl 3 rfl ?_
      refine v_get X (pc := 88) (v := .ref (a 1)) uw6 0 rfl rfl 0 (by decide) q_668 rfl rfl dX6_audits_88 ?_
      refine v_iload_n X (pc := 91) dX6_audits_91 rfl 2 rfl ?_
      refine v_iload_n X (pc := 92) dX6_audits_92 rfl 1 rfl ?_
      obtain ⟨g93, h⟩ := og h
      obtain ⟨m93, em93, h⟩ := lts h
      refine v_iast X (pc := 93) (w' := (wM x.g a m93)) 1 rfl (ib_in g93) (by rw [← em93]; rfl) dX6_audits_93 ?_
      refine v_aload_n X (pc := 94) dX6_audits_94 rfl 3 rfl ?_
      refine v_get X (pc := 95) (v := .ref (a 1)) uw6 0 rfl rfl 0 (by decide) q_668 rfl rfl dX6_audits_95 ?_
      refine v_iload_n X (pc := 98) dX6_audits_98 rfl 2 rfl ?_
      refine v_bipush X (pc := 99) (v := 12) dX6_audits_99 (by decide) ?_
      refine v_iadd X (pc := 101) dX6_audits_101 ?_
      refine v_iload_n X (pc := 102) dX6_audits_102 rfl 1 rfl ?_
      obtain ⟨g103, h⟩ := og h
      obtain ⟨m103, em103, h⟩ := lts h
      refine v_iast X (pc := 103) (w' := (wM x.g a m103)) 1 rfl (ib_in g103) (by rw [← em103]; rfl) dX6_audits_103 ?_
      refine v_aload_n X (pc := 104) dX6_audits_104 rfl 3 rfl ?_
      refine v_get X (pc := 105) (v := .ref (a 1)) uw6 0 rfl rfl 0 (by decide) q_668 rfl rfl dX6_audits_105 ?_
      refine v_iload_n X (pc := 108) dX6_audits_108 rfl 2 rfl ?_
      refine v_iconst X (pc := 109) (v := 4) dX6_audits_109 (by decide) ?_
      refine v_iadd X (pc := 110) dX6_audits_110 ?_
      refine v_iload X (pc := 111) dX6_audits_111 0 rfl ?_
      obtain ⟨g113, h⟩ := og h
      obtain ⟨m113, em113, h⟩ := lts h
      refine v_iast X (pc := 113) (w' := (wM x.g a m113)) 1 rfl (ib_in g113) (by rw [← em113]; rfl) dX6_audits_113 ?_
      refine v_aload_n X (pc := 114) dX6_audits_114 rfl 3 rfl ?_
      refine v_get X (pc := 115) (v := .ref (a 1)) uw6 0 rfl rfl 0 (by decide) q_668 rfl rfl dX6_audits_115 ?_
      refine v_iload_n X (pc := 118) dX6_audits_118 rfl 2 rfl ?_
      refine v_bipush X (pc := 119) (v := 8) dX6_audits_119 (by decide) ?_
      refine v_iadd X (pc := 121) dX6_audits_121 ?_
      refine v_iload X (pc := 122) dX6_audits_122 0 rfl ?_
      obtain ⟨g124, h⟩ := og h
      obtain ⟨m124, em124, h⟩ := lts h
      refine v_iast X (pc := 124) (w' := (wM x.g a m124)) 1 rfl (ib_in g124) (by rw [← em124]; rfl) dX6_audits_124 ?_
      replace h := oi h
      subst h
      exact v_vret X (pc := 125) F dX6_audits_125
    · replace h := hn c h
      refine v_aload_n X (pc := 65) dX6_audits_65 rfl 2 rfl ?_
      refine v_get X (pc := 66) (v := .ref (a 1)) uw6 0 rfl rfl 0 (by decide) q_668 rfl rfl dX6_audits_66 ?_
      refine v_iload_n X (pc := 69) dX6_audits_69 rfl 1 rfl ?_
      refine v_iconst X (pc := 70) (v := 4) dX6_audits_70 (by decide) ?_
      refine v_iadd X (pc := 71) dX6_audits_71 ?_
      obtain ⟨g72, h⟩ := og h
      refine v_iald X (pc := 72) (v := ((μ 1) (Int32.toNatClampNeg ((q2 + 4) + 4)))) 1 rfl (ib_in g72) rfl dX6_audits_72 ?_
      refine v_goto X (pc := 73) (tgt := 85) dX6_audits_73 (by decide) ?_
      refine v_istore X (pc := 85) (L2 := [(4, .int ((μ 1) (Int32.toNatClampNeg ((q2 + 4) + 4)))), (3, .int ((μ 1) (Int32.toNatClampNeg (q2 + 4)))), (2, .int (q2 + 4)), (0, .ref (a 0)), (1, .int x1)]) dX6_audits_85 (by decide) rfl ?_
      refine v_aload_n X (pc := 87) dX6_audits_87 rfl 3 rfl ?_
      refine v_get X (pc := 88) (v := .ref (a 1)) uw6 0 rfl rfl 0 (by decide) q_668 rfl rfl dX6_audits_88 ?_
      refine v_iload_n X (pc := 91) dX6_audits_91 rfl 2 rfl ?_
      refine v_iload_n X (pc := 92) dX6_audits_92 rfl 1 rfl ?_
      obtain ⟨g93, h⟩ := og h
      obtain ⟨m93, em93, h⟩ := lts h
      refine v_iast X (pc := 93) (w' := (wM x.g a m93)) 1 rfl (ib_in g93) (by rw [← em93]; rfl) dX6_audits_93 ?_
      refine v_aload_n X (pc := 94) dX6_audits_94 rfl 3 rfl ?_
      refine v_get X (pc := 95) (v := .ref (a 1)) uw6 0 rfl rfl 0 (by decide) q_668 rfl rfl dX6_audits_95 ?_
      refine v_iload_n X (pc := 98) dX6_audits_98 rfl 2 rfl ?_
      refine v_bipush X (pc := 99) (v := 12) dX6_audits_99 (by decide) ?_
      refine v_iadd X (pc := 101) dX6_audits_101 ?_
      refine v_iload_n X (pc := 102) dX6_audits_102 rfl 1 rfl ?_
      obtain ⟨g103, h⟩ := og h
      obtain ⟨m103, em103, h⟩ := lts h
      refine v_iast X (pc := 103) (w' := (wM x.g a m103)) 1 rfl (ib_in g103) (by rw [← em103]; rfl) dX6_audits_103 ?_
      refine v_aload_n X (pc := 104) dX6_audits_104 rfl 3 rfl ?_
      refine v_get X (pc := 105) (v := .ref (a 1)) uw6 0 rfl rfl 0 (by decide) q_668 rfl rfl dX6_audits_105 ?_
      refine v_iload_n X (pc := 108) dX6_audits_108 rfl 2 rfl ?_
      refine v_iconst X (pc := 109) (v := 4) dX6_audits_109 (by decide) ?_
      refine v_iadd X (pc := 110) dX6_audits_110 ?_
      refine v_iload X (pc := 111) dX6_audits_111 0 rfl ?_
      obtain ⟨g113, h⟩ := og h
      obtain ⟨m113, em113, h⟩ := lts h
      refine v_iast X (pc := 113) (w' := (wM x.g a m113)) 1 rfl (ib_in g113) (by rw [← em113]; rfl) dX6_audits_113 ?_
      refine v_aload_n X (pc := 114) dX6_audits_114 rfl 3 rfl ?_
      refine v_get X (pc := 115) (v := .ref (a 1)) uw6 0 rfl rfl 0 (by decide) q_668 rfl rfl dX6_audits_115 ?_
      refine v_iload_n X (pc := 118) dX6_audits_118 rfl 2 rfl ?_
      refine v_bipush X (pc := 119) (v := 8) dX6_audits_119 (by decide) ?_
      refine v_iadd X (pc := 121) dX6_audits_121 ?_
      refine v_iload X (pc := 122) dX6_audits_122 0 rfl ?_
      obtain ⟨g124, h⟩ := og h
      obtain ⟨m124, em124, h⟩ := lts h
      refine v_iast X (pc := 124) (w' := (wM x.g a m124)) 1 rfl (ib_in g124) (by rw [← em124]; rfl) dX6_audits_124 ?_
      replace h := oi h
      subst h
      exact v_vret X (pc := 125) F dX6_audits_125
theorem cw_X6_audits : CwB yX6_audits cX6_audits 5 (Option.none : Option FieldType) 1 := ⟨q_797, q_57, by decide, by decide, by decide +kernel⟩
def f_X6_audit (μ : Blk) (x1 : Int32) : Option (Int32 × Blk) :=
  lt (f_X6_isStile μ x1) fun q2 => (if q2 = true then (f_X6_records μ).bind fun q12 => (f_X6_gap q12 x1).bind fun q17 => (f_X6_audits q12 x1).bind fun q23 => some (q17, q23) else some ((-100001), μ))
set_option maxHeartbeats 4000000 in
set_option maxRecDepth 100000 in
theorem c_X6_audit (l : Launch) (g : Gl) (a : Nat → Nat) (μ : Blk) (x1 : Int32) {res : Int32 × Blk} (h : f_X6_audit μ x1 = some res) : Ok l g yX6_audit cX6_audit 3 (Option.some FieldType.int) 2 45 [.ref (a 0), .int x1] (wM g a μ) (some (.int res.1)) (wM g a res.2) := by
  refine Ok.of RX6 (by decide) rfl (Nat.le_of_ble_eq_true rfl) (fun x hl hg X F => ?_)
  subst hg; subst hl
  rw [f_X6_audit] at h
  show V x (wM x.g a μ) [(0, .ref (a 0)), (1, .int x1)] [] 0
  refine v_aload_n X (pc := 0) dX6_audit_0 rfl 0 rfl ?_
  refine v_iload_n X (pc := 1) dX6_audit_1 rfl 1 rfl ?_
  obtain ⟨q2, e2, h⟩ := lts h
  refine v_callV X (pc := 2) (st1 := [.int (b2i q2)]) (w' := (wM x.g a μ)) [.int x1] [] (c_X6_isStile x.l x.g a μ x1 e2) rfl rfl cw_X6_isStile q_728 q_730 q_22 ⟨by decide, by decide⟩ 0 6 rfl rfl rfl (Fr.all rfl) rfl (Nat.le_of_ble_eq_true rfl) dX6_audit_2 ?_
  refine v_ifneB X (pc := 5) (tgt := 11) dX6_audit_5 (by decide) (fun c => ?_) (fun c => ?_)
  · replace h := hp c h
    refine v_aload_n X (pc := 11) dX6_audit_11 rfl 0 rfl ?_
    obtain ⟨q12, e12, h⟩ := ob h
    refine v_callV X (pc := 12) (st1 := []) (w' := (wM x.g a q12)) [] [] (c_X6_records x.l x.g a μ e12) rfl rfl cw_X6_records q_713 q_715 q_20 ⟨by decide, by decide⟩ 0 6 rfl rfl rfl (Fr.all rfl) rfl (Nat.le_of_ble_eq_true rfl) dX6_audit_12 ?_
    refine v_aload_n X (pc := 15) dX6_audit_15 rfl 0 rfl ?_
    refine v_iload_n X (pc := 16) dX6_audit_16 rfl 1 rfl ?_
    obtain ⟨q17, e17, h⟩ := ob h
    refine v_callV X (pc := 17) (st1 := [.int q17]) (w' := (wM x.g a q12)) [.int x1] [] (c_X6_gap x.l x.g a q12 x1 e17) rfl rfl cw_X6_gap q_779 q_781 q_30 ⟨by decide, by decide⟩ 0 6 rfl rfl rfl (Fr.all rfl) rfl (Nat.le_of_ble_eq_true rfl) dX6_audit_17 ?_
    refine v_istore_n X (pc := 20) (L2 := [(2, .int q17), (0, .ref (a 0)), (1, .int x1)]) dX6_audit_20 rfl (by decide) rfl ?_
    refine v_aload_n X (pc := 21) dX6_audit_21 rfl 1 rfl ?_
    refine v_iload_n X (pc := 22) dX6_audit_22 rfl 2 rfl ?_
    obtain ⟨q23, e23, h⟩ := ob h
    refine v_callV X (pc := 23) (st1 := []) (w' := (wM x.g a q23)) [.int x1] [] (c_X6_audits x.l x.g a q12 x1 e23) rfl rfl cw_X6_audits q_794 q_796 q_32 ⟨by decide, by decide⟩ 0 6 rfl rfl rfl (Fr.all rfl) rfl (Nat.le_of_ble_eq_true rfl) dX6_audit_23 ?_
    refine v_iload_n X (pc := 26) dX6_audit_26 rfl 0 rfl ?_
    replace h := oi h
    subst h
    exact v_iret X (pc := 27) F dX6_audit_27
  · replace h := hn (nbt c) h
    refine v_ldc X (pc := 8) (v := (-100001)) q_710 dX6_audit_8 ?_
    replace h := oi h
    subst h
    exact v_iret X (pc := 10) F dX6_audit_10
theorem cw_X6_audit : CwB yX6_audit cX6_audit 3 (Option.some FieldType.int) 1 := ⟨q_793, q_57, by decide, by decide, by decide +kernel⟩
def f_X6_repair (μ : Blk) (x1 : Int32) : Option (Int32 × Blk) :=
  lt (f_X6_isStile μ x1) fun q2 => (if q2 = true then lt (f_X6_place 0 x1) fun q17 => (if ib (q17 + 3) 2048 = true then (if ((μ 1) (Int32.toNatClampNeg (q17 + 3))) ≤ 0 then (f_X6_records μ).bind fun q30 => lt (f_X6_place 0 x1) fun q39 => (if ib (q39 + 3) 2048 = true then lt (upR q30 1 (upd (q30 1) (Int32.toNatClampNeg (q39 + 3)) ((q30 1) 1))) fun m50 => some ((((m50 1) 2) + ((m50 1) 1)), m50) else none) else some ((-100004), μ)) else none) else some ((-100001), μ))
set_option maxHeartbeats 4000000 in
set_option maxRecDepth 100000 in
theorem c_X6_repair (l : Launch) (g : Gl) (a : Nat → Nat) (μ : Blk) (x1 : Int32) {res : Int32 × Blk} (h : f_X6_repair μ x1 = some res) : Ok l g yX6_repair cX6_repair 2 (Option.some FieldType.int) 2 44 [.ref (a 0), .int x1] (wM g a μ) (some (.int res.1)) (wM g a res.2) := by
  refine Ok.of RX6 (by decide) rfl (Nat.le_of_ble_eq_true rfl) (fun x hl hg X F => ?_)
  subst hg; subst hl
  rw [f_X6_repair] at h
  show V x (wM x.g a μ) [(0, .ref (a 0)), (1, .int x1)] [] 0
  refine v_aload_n X (pc := 0) dX6_repair_0 rfl 0 rfl ?_
  refine v_iload_n X (pc := 1) dX6_repair_1 rfl 1 rfl ?_
  obtain ⟨q2, e2, h⟩ := lts h
  refine v_callV X (pc := 2) (st1 := [.int (b2i q2)]) (w' := (wM x.g a μ)) [.int x1] [] (c_X6_isStile x.l x.g a μ x1 e2) rfl rfl cw_X6_isStile q_728 q_730 q_22 ⟨by decide, by decide⟩ 0 6 rfl rfl rfl (Fr.all rfl) rfl (Nat.le_of_ble_eq_true rfl) dX6_repair_2 ?_
  refine v_ifneB X (pc := 5) (tgt := 11) dX6_repair_5 (by decide) (fun c => ?_) (fun c => ?_)
  · replace h := hp c h
    refine v_aload_n X (pc := 11) dX6_repair_11 rfl 0 rfl ?_
    refine v_get X (pc := 12) (v := .ref (a 1)) uw6 0 rfl rfl 0 (by decide) q_668 rfl rfl dX6_repair_12 ?_
    refine v_iconst X (pc := 15) (v := 0) dX6_repair_15 (by decide) ?_
    refine v_iload_n X (pc := 16) dX6_repair_16 rfl 1 rfl ?_
    obtain ⟨q17, e17, h⟩ := lts h
    refine v_callS X (pc := 17) (st1 := [.int q17, .ref (a 1)]) (w' := (wM x.g a μ)) [.int 0, .int x1] [.ref (a 1)] (c_X6_place x.l x.g  0 x1 e17) rfl rfl cw_X6_place q_721 q_722 ⟨by decide, by decide⟩ Fr.nil rfl (Nat.le_of_ble_eq_true rfl) dX6_repair_17 ?_
    refine v_iconst X (pc := 20) (v := 3) dX6_repair_20 (by decide) ?_
    refine v_iadd X (pc := 21) dX6_repair_21 ?_
    obtain ⟨g22, h⟩ := og h
    refine v_iald X (pc := 22) (v := ((μ 1) (Int32.toNatClampNeg (q17 + 3)))) 1 rfl (ib_in g22) rfl dX6_repair_22 ?_
    refine v_ifle X (pc := 23) (tgt := 29) dX6_repair_23 (by decide) (fun c => ?_) (fun c => ?_)
    · replace h := hp c h
      refine v_aload_n X (pc := 29) dX6_repair_29 rfl 0 rfl ?_
      obtain ⟨q30, e30, h⟩ := ob h
      refine v_callV X (pc := 30) (st1 := []) (w' := (wM x.g a q30)) [] [] (c_X6_records x.l x.g a μ e30) rfl rfl cw_X6_records q_713 q_715 q_20 ⟨by decide, by decide⟩ 0 6 rfl rfl rfl (Fr.all rfl) rfl (Nat.le_of_ble_eq_true rfl) dX6_repair_30 ?_
      refine v_aload_n X (pc := 33) dX6_repair_33 rfl 0 rfl ?_
      refine v_get X (pc := 34) (v := .ref (a 1)) uw6 0 rfl rfl 0 (by decide) q_668 rfl rfl dX6_repair_34 ?_
      refine v_iconst X (pc := 37) (v := 0) dX6_repair_37 (by decide) ?_
      refine v_iload_n X (pc := 38) dX6_repair_38 rfl 1 rfl ?_
      obtain ⟨q39, e39, h⟩ := lts h
      refine v_callS X (pc := 39) (st1 := [.int q39, .ref (a 1)]) (w' := (wM x.g a q30)) [.int 0, .int x1] [.ref (a 1)] (c_X6_place x.l x.g  0 x1 e39) rfl rfl cw_X6_place q_721 q_722 ⟨by decide, by decide⟩ Fr.nil rfl (Nat.le_of_ble_eq_true rfl) dX6_repair_39 ?_
      refine v_iconst X (pc := 42) (v := 3) dX6_repair_42 (by decide) ?_
      refine v_iadd X (pc := 43) dX6_repair_43 ?_
      refine v_aload_n X (pc := 44) dX6_repair_44 rfl 0 rfl ?_
      refine v_get X (pc := 45) (v := .ref (a 1)) uw6 0 rfl rfl 0 (by decide) q_668 rfl rfl dX6_repair_45 ?_
      refine v_iconst X (pc := 48) (v := 1) dX6_repair_48 (by decide) ?_
      refine v_iald X (pc := 49) (v := ((q30 1) 1)) 1 rfl (ib_in (by decide)) rfl dX6_repair_49 ?_
      obtain ⟨g50, h⟩ := og h
      obtain ⟨m50, em50, h⟩ := lts h
      refine v_iast X (pc := 50) (w' := (wM x.g a m50)) 1 rfl (ib_in g50) (by rw [← em50]; rfl) dX6_repair_50 ?_
      refine v_aload_n X (pc := 51) dX6_repair_51 rfl 0 rfl ?_
      refine v_get X (pc := 52) (v := .ref (a 1)) uw6 0 rfl rfl 0 (by decide) q_668 rfl rfl dX6_repair_52 ?_
      refine v_iconst X (pc := 55) (v := 2) dX6_repair_55 (by decide) ?_
      refine v_iald X (pc := 56) (v := ((m50 1) 2)) 1 rfl (ib_in (by decide)) rfl dX6_repair_56 ?_
      refine v_aload_n X (pc := 57) dX6_repair_57 rfl 0 rfl ?_
      refine v_get X (pc := 58) (v := .ref (a 1)) uw6 0 rfl rfl 0 (by decide) q_668 rfl rfl dX6_repair_58 ?_
      refine v_iconst X (pc := 61) (v := 1) dX6_repair_61 (by decide) ?_
      refine v_iald X (pc := 62) (v := ((m50 1) 1)) 1 rfl (ib_in (by decide)) rfl dX6_repair_62 ?_
      refine v_iadd X (pc := 63) dX6_repair_63 ?_
      replace h := oi h
      subst h
      exact v_iret X (pc := 64) F dX6_repair_64
    · replace h := hn c h
      refine v_ldc X (pc := 26) (v := (-100004)) q_739 dX6_repair_26 ?_
      replace h := oi h
      subst h
      exact v_iret X (pc := 28) F dX6_repair_28
  · replace h := hn (nbt c) h
    refine v_ldc X (pc := 8) (v := (-100001)) q_710 dX6_repair_8 ?_
    replace h := oi h
    subst h
    exact v_iret X (pc := 10) F dX6_repair_10
theorem cw_X6_repair : CwB yX6_repair cX6_repair 2 (Option.some FieldType.int) 1 := ⟨q_801, q_57, by decide, by decide, by decide +kernel⟩
def f_X6_hoursPass_L4 (x1 : Int32) : Nat → Blk → Int32 → Int32 → Option (Int32 × Blk)
  | 0, _, _, _ => none
  | n + 1, μ, x2, x3 =>
    (if x1 ≤ x3 then some (x2, μ) else (f_X6_hour μ 0).bind fun q12 => f_X6_hoursPass_L4 x1 n q12.2 (x2 + q12.1) (x3 + 1))
set_option maxHeartbeats 4000000 in
set_option maxRecDepth 100000 in
theorem v_X6_hoursPass_L4 {x : Ctx} (X : Cx x RX6 cX6_hoursPass 4 2 46) (a : Nat → Nat) (x1 : Int32) : ∀ (n : Nat) (μ : Blk) (x2 : Int32) (x3 : Int32) {res : Int32 × Blk}, f_X6_hoursPass_L4 x1 n μ x2 x3 = some res → Fn x (Option.some FieldType.int) (some (.int res.1)) (wM x.g a res.2) → V x (wM x.g a μ) [(0, .ref (a 0)), (1, .int x1), (2, .int x2), (3, .int x3)] [] 4 := by
  intro n
  induction n with
  | zero =>
    intro μ x2 x3 res h F
    rw [f_X6_hoursPass_L4] at h
    cases h
  | succ n ih =>
    intro μ x2 x3 res h F
    rw [f_X6_hoursPass_L4] at h
    refine v_iload_n X (pc := 4) dX6_hoursPass_4 rfl 3 rfl ?_
    refine v_iload_n X (pc := 5) dX6_hoursPass_5 rfl 1 rfl ?_
    refine v_icmpge X (pc := 6) (tgt := 23) dX6_hoursPass_6 (by decide) (fun c => ?_) (fun c => ?_)
    · replace h := hp c h
      refine v_iload_n X (pc := 23) dX6_hoursPass_23 rfl 2 rfl ?_
      replace h := oi h
      subst h
      exact v_iret X (pc := 24) F dX6_hoursPass_24
    · replace h := hn c h
      refine v_iload_n X (pc := 9) dX6_hoursPass_9 rfl 2 rfl ?_
      refine v_aload_n X (pc := 10) dX6_hoursPass_10 rfl 0 rfl ?_
      refine v_iconst X (pc := 11) (v := 0) dX6_hoursPass_11 (by decide) ?_
      obtain ⟨q12, e12, h⟩ := ob h
      refine v_callV X (pc := 12) (st1 := [.int q12.1, .int x2]) (w' := (wM x.g a q12.2)) [.int 0] [.int x2] (c_X6_hour x.l x.g a μ 0 e12) rfl rfl cw_X6_hour q_810 q_812 q_34 ⟨by decide, by decide⟩ 0 6 rfl rfl rfl (Fr.all rfl) rfl (Nat.le_of_ble_eq_true rfl) dX6_hoursPass_12 ?_
      refine v_iadd X (pc := 15) dX6_hoursPass_15 ?_
      refine v_istore_n X (pc := 16) (L2 := [(2, .int (x2 + q12.1)), (0, .ref (a 0)), (1, .int x1), (3, .int x3)]) dX6_hoursPass_16 rfl (by decide) rfl ?_
      refine v_iinc X (pc := 17) (v := (x3 + 1)) (L2 := [(3, .int (x3 + 1)), (2, .int (x2 + q12.1)), (0, .ref (a 0)), (1, .int x1)]) dX6_hoursPass_17 3 rfl (by first | rfl | decide) (by decide) rfl ?_
      refine v_goto X (pc := 20) (tgt := 4) dX6_hoursPass_20 (by decide) ?_
      refine v_sub (L2 := [(0, .ref (a 0)), (1, .int x1), (2, .int (x2 + q12.1)), (3, .int (x3 + 1))]) [2, 3, 1, 0] rfl ?_
      exact ih q12.2 (x2 + q12.1) (x3 + 1) h F
def f_X6_hoursPass (μ : Blk) (x1 : Int32) : Option (Int32 × Blk) :=
  f_X6_hoursPass_L4 x1 FU μ 0 0
set_option maxHeartbeats 4000000 in
set_option maxRecDepth 100000 in
theorem c_X6_hoursPass (l : Launch) (g : Gl) (a : Nat → Nat) (μ : Blk) (x1 : Int32) {res : Int32 × Blk} (h : f_X6_hoursPass μ x1 = some res) : Ok l g yX6_hoursPass cX6_hoursPass 4 (Option.some FieldType.int) 2 46 [.ref (a 0), .int x1] (wM g a μ) (some (.int res.1)) (wM g a res.2) := by
  refine Ok.of RX6 (by decide) rfl (Nat.le_of_ble_eq_true rfl) (fun x hl hg X F => ?_)
  subst hg; subst hl
  rw [f_X6_hoursPass] at h
  show V x (wM x.g a μ) [(0, .ref (a 0)), (1, .int x1)] [] 0
  refine v_iconst X (pc := 0) (v := 0) dX6_hoursPass_0 (by decide) ?_
  refine v_istore_n X (pc := 1) (L2 := [(2, .int 0), (0, .ref (a 0)), (1, .int x1)]) dX6_hoursPass_1 rfl (by decide) rfl ?_
  refine v_iconst X (pc := 2) (v := 0) dX6_hoursPass_2 (by decide) ?_
  refine v_istore_n X (pc := 3) (L2 := [(3, .int 0), (2, .int 0), (0, .ref (a 0)), (1, .int x1)]) dX6_hoursPass_3 rfl (by decide) rfl ?_
  refine v_sub (L2 := [(0, .ref (a 0)), (1, .int x1), (2, .int 0), (3, .int 0)]) [2, 3, 1, 0] rfl ?_
  exact v_X6_hoursPass_L4 X a x1 FU μ 0 0 h F
theorem cw_X6_hoursPass : CwB yX6_hoursPass cX6_hoursPass 4 (Option.some FieldType.int) 1 := ⟨q_809, q_57, by decide, by decide, by decide +kernel⟩
def f_X6_hours (μ : Blk) (x1 : Int32) : Option (Int32 × Blk) :=
  lt (f_X6_in x1 1 99) fun q4 => (if q4 = true then (f_X6_records μ).bind fun q14 => (f_X6_hoursPass q14 x1).bind fun q19 => some (q19.1, q19.2) else some ((-100002), μ))
set_option maxHeartbeats 4000000 in
set_option maxRecDepth 100000 in
theorem c_X6_hours (l : Launch) (g : Gl) (a : Nat → Nat) (μ : Blk) (x1 : Int32) {res : Int32 × Blk} (h : f_X6_hours μ x1 = some res) : Ok l g yX6_hours cX6_hours 2 (Option.some FieldType.int) 3 69 [.ref (a 0), .int x1] (wM g a μ) (some (.int res.1)) (wM g a res.2) := by
  refine Ok.of RX6 (by decide) rfl (Nat.le_of_ble_eq_true rfl) (fun x hl hg X F => ?_)
  subst hg; subst hl
  rw [f_X6_hours] at h
  show V x (wM x.g a μ) [(0, .ref (a 0)), (1, .int x1)] [] 0
  refine v_iload_n X (pc := 0) dX6_hours_0 rfl 1 rfl ?_
  refine v_iconst X (pc := 1) (v := 1) dX6_hours_1 (by decide) ?_
  refine v_bipush X (pc := 2) (v := 99) dX6_hours_2 (by decide) ?_
  obtain ⟨q4, e4, h⟩ := lts h
  refine v_callS X (pc := 4) (st1 := [.int (b2i q4)]) (w' := (wM x.g a μ)) [.int x1, .int 1, .int 99] [] (c_X6_in x.l x.g  x1 1 99 e4) rfl rfl cw_X6_in q_707 q_708 ⟨by decide, by decide⟩ Fr.nil rfl (Nat.le_of_ble_eq_true rfl) dX6_hours_4 ?_
  refine v_ifneB X (pc := 7) (tgt := 13) dX6_hours_7 (by decide) (fun c => ?_) (fun c => ?_)
  · replace h := hp c h
    refine v_aload_n X (pc := 13) dX6_hours_13 rfl 0 rfl ?_
    obtain ⟨q14, e14, h⟩ := ob h
    refine v_callV X (pc := 14) (st1 := []) (w' := (wM x.g a q14)) [] [] (c_X6_records x.l x.g a μ e14) rfl rfl cw_X6_records q_713 q_715 q_20 ⟨by decide, by decide⟩ 0 6 rfl rfl rfl (Fr.all rfl) rfl (Nat.le_of_ble_eq_true rfl) dX6_hours_14 ?_
    refine v_aload_n X (pc := 17) dX6_hours_17 rfl 0 rfl ?_
    refine v_iload_n X (pc := 18) dX6_hours_18 rfl 1 rfl ?_
    obtain ⟨q19, e19, h⟩ := ob h
    refine v_callV X (pc := 19) (st1 := [.int q19.1]) (w' := (wM x.g a q19.2)) [.int x1] [] (c_X6_hoursPass x.l x.g a q14 x1 e19) rfl rfl cw_X6_hoursPass q_806 q_808 q_33 ⟨by decide, by decide⟩ 0 6 rfl rfl rfl (Fr.all rfl) rfl (Nat.le_of_ble_eq_true rfl) dX6_hours_19 ?_
    replace h := oi h
    subst h
    exact v_iret X (pc := 22) F dX6_hours_22
  · replace h := hn (nbt c) h
    refine v_ldc X (pc := 10) (v := (-100002)) q_711 dX6_hours_10 ?_
    replace h := oi h
    subst h
    exact v_iret X (pc := 12) F dX6_hours_12
theorem cw_X6_hours : CwB yX6_hours cX6_hours 2 (Option.some FieldType.int) 1 := ⟨q_805, q_57, by decide, by decide, by decide +kernel⟩
def f_X6_close_L21 (x1 : Int32) : Nat → Blk → Int32 → Int32 → Option (Int32 × Blk)
  | 0, _, _, _ => none
  | n + 1, μ, x2, x3 =>
    (if x1 ≤ x3 then (f_X6_people μ 0).bind fun q44 => some (q44, μ) else (if x2 ≤ 0 then (f_X6_people μ 0).bind fun q44 => some (q44, μ) else (f_X6_closes μ 0).bind fun q32 => f_X6_close_L21 x1 n q32.2 q32.1 (x3 + 1)))
set_option maxHeartbeats 4000000 in
set_option maxRecDepth 100000 in
theorem v_X6_close_L21 {x : Ctx} (X : Cx x RX6 cX6_close 4 3 81) (a : Nat → Nat) (x1 : Int32) : ∀ (n : Nat) (μ : Blk) (x2 : Int32) (x3 : Int32) {res : Int32 × Blk}, f_X6_close_L21 x1 n μ x2 x3 = some res → Fn x (Option.some FieldType.int) (some (.int res.1)) (wM x.g a res.2) → V x (wM x.g a μ) [(0, .ref (a 0)), (1, .int x1), (2, .int x2), (3, .int x3)] [] 21 := by
  intro n
  induction n with
  | zero =>
    intro μ x2 x3 res h F
    rw [f_X6_close_L21] at h
    cases h
  | succ n ih =>
    intro μ x2 x3 res h F
    rw [f_X6_close_L21] at h
    refine v_iload_n X (pc := 21) dX6_close_21 rfl 3 rfl ?_
    refine v_iload_n X (pc := 22) dX6_close_22 rfl 1 rfl ?_
    refine v_icmpge X (pc := 23) (tgt := 42) dX6_close_23 (by decide) (fun c => ?_) (fun c => ?_)
    · replace h := hp c h
      refine v_aload_n X (pc := 42) dX6_close_42 rfl 0 rfl ?_
      refine v_iconst X (pc := 43) (v := 0) dX6_close_43 (by decide) ?_
      obtain ⟨q44, e44, h⟩ := ob h
      refine v_callV X (pc := 44) (st1 := [.int q44]) (w' := (wM x.g a μ)) [.int 0] [] (c_X6_people x.l x.g a μ 0 e44) rfl rfl cw_X6_people q_831 q_833 q_38 ⟨by decide, by decide⟩ 0 6 rfl rfl rfl (Fr.all rfl) rfl (Nat.le_of_ble_eq_true rfl) dX6_close_44 ?_
      replace h := oi h
      subst h
      exact v_iret X (pc := 47) F dX6_close_47
    · replace h := hn c h
      refine v_iload_n X (pc := 26) dX6_close_26 rfl 2 rfl ?_
      refine v_ifle X (pc := 27) (tgt := 42) dX6_close_27 (by decide) (fun c => ?_) (fun c => ?_)
      · replace h := hp c h
        refine v_aload_n X (pc := 42) dX6_close_42 rfl 0 rfl ?_
        refine v_iconst X (pc := 43) (v := 0) dX6_close_43 (by decide) ?_
        obtain ⟨q44, e44, h⟩ := ob h
        refine v_callV X (pc := 44) (st1 := [.int q44]) (w' := (wM x.g a μ)) [.int 0] [] (c_X6_people x.l x.g a μ 0 e44) rfl rfl cw_X6_people q_831 q_833 q_38 ⟨by decide, by decide⟩ 0 6 rfl rfl rfl (Fr.all rfl) rfl (Nat.le_of_ble_eq_true rfl) dX6_close_44 ?_
        replace h := oi h
        subst h
        exact v_iret X (pc := 47) F dX6_close_47
      · replace h := hn c h
        refine v_aload_n X (pc := 30) dX6_close_30 rfl 0 rfl ?_
        refine v_iconst X (pc := 31) (v := 0) dX6_close_31 (by decide) ?_
        obtain ⟨q32, e32, h⟩ := ob h
        refine v_callV X (pc := 32) (st1 := [.int q32.1]) (w' := (wM x.g a q32.2)) [.int 0] [] (c_X6_closes x.l x.g a μ 0 e32) rfl rfl cw_X6_closes q_818 q_820 q_35 ⟨by decide, by decide⟩ 0 6 rfl rfl rfl (Fr.all rfl) rfl (Nat.le_of_ble_eq_true rfl) dX6_close_32 ?_
        refine v_istore_n X (pc := 35) (L2 := [(2, .int q32.1), (0, .ref (a 0)), (1, .int x1), (3, .int x3)]) dX6_close_35 rfl (by decide) rfl ?_
        refine v_iinc X (pc := 36) (v := (x3 + 1)) (L2 := [(3, .int (x3 + 1)), (2, .int q32.1), (0, .ref (a 0)), (1, .int x1)]) dX6_close_36 3 rfl (by first | rfl | decide) (by decide) rfl ?_
        refine v_goto X (pc := 39) (tgt := 21) dX6_close_39 (by decide) ?_
        refine v_sub (L2 := [(0, .ref (a 0)), (1, .int x1), (2, .int q32.1), (3, .int (x3 + 1))]) [2, 3, 1, 0] rfl ?_
        exact ih q32.2 q32.1 (x3 + 1) h F
def f_X6_close (μ : Blk) (x1 : Int32) : Option (Int32 × Blk) :=
  lt (f_X6_in x1 1 99) fun q4 => (if q4 = true then (f_X6_records μ).bind fun q14 => f_X6_close_L21 x1 FU q14 1 0 else some ((-100002), μ))
set_option maxHeartbeats 4000000 in
set_option maxRecDepth 100000 in
theorem c_X6_close (l : Launch) (g : Gl) (a : Nat → Nat) (μ : Blk) (x1 : Int32) {res : Int32 × Blk} (h : f_X6_close μ x1 = some res) : Ok l g yX6_close cX6_close 4 (Option.some FieldType.int) 3 81 [.ref (a 0), .int x1] (wM g a μ) (some (.int res.1)) (wM g a res.2) := by
  refine Ok.of RX6 (by decide) rfl (Nat.le_of_ble_eq_true rfl) (fun x hl hg X F => ?_)
  subst hg; subst hl
  rw [f_X6_close] at h
  show V x (wM x.g a μ) [(0, .ref (a 0)), (1, .int x1)] [] 0
  refine v_iload_n X (pc := 0) dX6_close_0 rfl 1 rfl ?_
  refine v_iconst X (pc := 1) (v := 1) dX6_close_1 (by decide) ?_
  refine v_bipush X (pc := 2) (v := 99) dX6_close_2 (by decide) ?_
  obtain ⟨q4, e4, h⟩ := lts h
  refine v_callS X (pc := 4) (st1 := [.int (b2i q4)]) (w' := (wM x.g a μ)) [.int x1, .int 1, .int 99] [] (c_X6_in x.l x.g  x1 1 99 e4) rfl rfl cw_X6_in q_707 q_708 ⟨by decide, by decide⟩ Fr.nil rfl (Nat.le_of_ble_eq_true rfl) dX6_close_4 ?_
  refine v_ifneB X (pc := 7) (tgt := 13) dX6_close_7 (by decide) (fun c => ?_) (fun c => ?_)
  · replace h := hp c h
    refine v_aload_n X (pc := 13) dX6_close_13 rfl 0 rfl ?_
    obtain ⟨q14, e14, h⟩ := ob h
    refine v_callV X (pc := 14) (st1 := []) (w' := (wM x.g a q14)) [] [] (c_X6_records x.l x.g a μ e14) rfl rfl cw_X6_records q_713 q_715 q_20 ⟨by decide, by decide⟩ 0 6 rfl rfl rfl (Fr.all rfl) rfl (Nat.le_of_ble_eq_true rfl) dX6_close_14 ?_
    refine v_iconst X (pc := 17) (v := 1) dX6_close_17 (by decide) ?_
    refine v_istore_n X (pc := 18) (L2 := [(2, .int 1), (0, .ref (a 0)), (1, .int x1)]) dX6_close_18 rfl (by decide) rfl ?_
    refine v_iconst X (pc := 19) (v := 0) dX6_close_19 (by decide) ?_
    refine v_istore_n X (pc := 20) (L2 := [(3, .int 0), (2, .int 1), (0, .ref (a 0)), (1, .int x1)]) dX6_close_20 rfl (by decide) rfl ?_
    refine v_sub (L2 := [(0, .ref (a 0)), (1, .int x1), (2, .int 1), (3, .int 0)]) [2, 3, 1, 0] rfl ?_
    exact v_X6_close_L21 X a x1 FU q14 1 0 h F
  · replace h := hn (nbt c) h
    refine v_ldc X (pc := 10) (v := (-100002)) q_711 dX6_close_10 ?_
    replace h := oi h
    subst h
    exact v_iret X (pc := 12) F dX6_close_12
theorem cw_X6_close : CwB yX6_close cX6_close 4 (Option.some FieldType.int) 1 := ⟨q_817, q_57, by decide, by decide, by decide +kernel⟩
def f_X6_set (μ : Blk) (x1 : Int32) (x2 : Int32) : Option (Int32 × Blk) :=
  lt (f_X6_in x1 0 1) fun q3 => (if q3 = true then (if x1 = 0 then lt (f_X6_in x2 1 99) fun q25 => (if q25 = true then (f_X6_records μ).bind fun q35 => (if ib x1 2048 = true then (if ib x1 2048 = true then lt (upR q35 1 (upd (q35 1) (Int32.toNatClampNeg x1) x2)) fun m51 => some (((q35 1) (Int32.toNatClampNeg x1)), m51) else none) else none) else some ((-100002), μ)) else lt (f_X6_in x2 1 48) fun q25 => (if q25 = true then (f_X6_records μ).bind fun q35 => (if ib x1 2048 = true then (if ib x1 2048 = true then lt (upR q35 1 (upd (q35 1) (Int32.toNatClampNeg x1) x2)) fun m51 => some (((q35 1) (Int32.toNatClampNeg x1)), m51) else none) else none) else some ((-100002), μ))) else some ((-100001), μ))
set_option maxHeartbeats 4000000 in
set_option maxRecDepth 100000 in
theorem c_X6_set (l : Launch) (g : Gl) (a : Nat → Nat) (μ : Blk) (x1 : Int32) (x2 : Int32) {res : Int32 × Blk} (h : f_X6_set μ x1 x2 = some res) : Ok l g yX6_set cX6_set 4 (Option.some FieldType.int) 2 44 [.ref (a 0), .int x1, .int x2] (wM g a μ) (some (.int res.1)) (wM g a res.2) := by
  refine Ok.of RX6 (by decide) rfl (Nat.le_of_ble_eq_true rfl) (fun x hl hg X F => ?_)
  subst hg; subst hl
  rw [f_X6_set] at h
  show V x (wM x.g a μ) [(0, .ref (a 0)), (1, .int x1), (2, .int x2)] [] 0
  refine v_iload_n X (pc := 0) dX6_set_0 rfl 1 rfl ?_
  refine v_iconst X (pc := 1) (v := 0) dX6_set_1 (by decide) ?_
  refine v_iconst X (pc := 2) (v := 1) dX6_set_2 (by decide) ?_
  obtain ⟨q3, e3, h⟩ := lts h
  refine v_callS X (pc := 3) (st1 := [.int (b2i q3)]) (w' := (wM x.g a μ)) [.int x1, .int 0, .int 1] [] (c_X6_in x.l x.g  x1 0 1 e3) rfl rfl cw_X6_in q_707 q_708 ⟨by decide, by decide⟩ Fr.nil rfl (Nat.le_of_ble_eq_true rfl) dX6_set_3 ?_
  refine v_ifneB X (pc := 6) (tgt := 12) dX6_set_6 (by decide) (fun c => ?_) (fun c => ?_)
  · replace h := hp c h
    refine v_iload_n X (pc := 12) dX6_set_12 rfl 2 rfl ?_
    refine v_iconst X (pc := 13) (v := 1) dX6_set_13 (by decide) ?_
    refine v_iload_n X (pc := 14) dX6_set_14 rfl 1 rfl ?_
    refine v_ifne X (pc := 15) (tgt := 23) dX6_set_15 (by decide) (fun c => ?_) (fun c => ?_)
    · replace h := hn c h
      refine v_bipush X (pc := 23) (v := 48) dX6_set_23 (by decide) ?_
      obtain ⟨q25, e25, h⟩ := lts h
      refine v_callS X (pc := 25) (st1 := [.int (b2i q25)]) (w' := (wM x.g a μ)) [.int x2, .int 1, .int 48] [] (c_X6_in x.l x.g  x2 1 48 e25) rfl rfl cw_X6_in q_707 q_708 ⟨by decide, by decide⟩ Fr.nil rfl (Nat.le_of_ble_eq_true rfl) dX6_set_25 ?_
      refine v_ifneB X (pc := 28) (tgt := 34) dX6_set_28 (by decide) (fun c => ?_) (fun c => ?_)
      · replace h := hp c h
        refine v_aload_n X (pc := 34) dX6_set_34 rfl 0 rfl ?_
        obtain ⟨q35, e35, h⟩ := ob h
        refine v_callV X (pc := 35) (st1 := []) (w' := (wM x.g a q35)) [] [] (c_X6_records x.l x.g a μ e35) rfl rfl cw_X6_records q_713 q_715 q_20 ⟨by decide, by decide⟩ 0 6 rfl rfl rfl (Fr.all rfl) rfl (Nat.le_of_ble_eq_true rfl) dX6_set_35 ?_
        refine v_aload_n X (pc := 38) dX6_set_38 rfl 0 rfl ?_
        refine v_get X (pc := 39) (v := .ref (a 1)) uw6 0 rfl rfl 0 (by decide) q_668 rfl rfl dX6_set_39 ?_
        refine v_iload_n X (pc := 42) dX6_set_42 rfl 1 rfl ?_
        obtain ⟨g43, h⟩ := og h
        refine v_iald X (pc := 43) (v := ((q35 1) (Int32.toNatClampNeg x1))) 1 rfl (ib_in g43) rfl dX6_set_43 ?_
        refine v_istore_n X (pc := 44) (L2 := [(3, .int ((q35 1) (Int32.toNatClampNeg x1))), (0, .ref (a 0)), (1, .int x1), (2, .int x2)]) dX6_set_44 rfl (by decide) rfl ?_
        refine v_aload_n X (pc := 45) dX6_set_45 rfl 1 rfl ?_
        refine v_get X (pc := 46) (v := .ref (a 1)) uw6 0 rfl rfl 0 (by decide) q_668 rfl rfl dX6_set_46 ?_
        refine v_iload_n X (pc := 49) dX6_set_49 rfl 2 rfl ?_
        refine v_iload_n X (pc := 50) dX6_set_50 rfl 3 rfl ?_
        obtain ⟨g51, h⟩ := og h
        obtain ⟨m51, em51, h⟩ := lts h
        refine v_iast X (pc := 51) (w' := (wM x.g a m51)) 1 rfl (ib_in g51) (by rw [← em51]; rfl) dX6_set_51 ?_
        refine v_iload_n X (pc := 52) dX6_set_52 rfl 0 rfl ?_
        replace h := oi h
        subst h
        exact v_iret X (pc := 53) F dX6_set_53
      · replace h := hn (nbt c) h
        refine v_ldc X (pc := 31) (v := (-100002)) q_711 dX6_set_31 ?_
        replace h := oi h
        subst h
        exact v_iret X (pc := 33) F dX6_set_33
    · replace h := hp c h
      refine v_bipush X (pc := 18) (v := 99) dX6_set_18 (by decide) ?_
      refine v_goto X (pc := 20) (tgt := 25) dX6_set_20 (by decide) ?_
      obtain ⟨q25, e25, h⟩ := lts h
      refine v_callS X (pc := 25) (st1 := [.int (b2i q25)]) (w' := (wM x.g a μ)) [.int x2, .int 1, .int 99] [] (c_X6_in x.l x.g  x2 1 99 e25) rfl rfl cw_X6_in q_707 q_708 ⟨by decide, by decide⟩ Fr.nil rfl (Nat.le_of_ble_eq_true rfl) dX6_set_25 ?_
      refine v_ifneB X (pc := 28) (tgt := 34) dX6_set_28 (by decide) (fun c => ?_) (fun c => ?_)
      · replace h := hp c h
        refine v_aload_n X (pc := 34) dX6_set_34 rfl 0 rfl ?_
        obtain ⟨q35, e35, h⟩ := ob h
        refine v_callV X (pc := 35) (st1 := []) (w' := (wM x.g a q35)) [] [] (c_X6_records x.l x.g a μ e35) rfl rfl cw_X6_records q_713 q_715 q_20 ⟨by decide, by decide⟩ 0 6 rfl rfl rfl (Fr.all rfl) rfl (Nat.le_of_ble_eq_true rfl) dX6_set_35 ?_
        refine v_aload_n X (pc := 38) dX6_set_38 rfl 0 rfl ?_
        refine v_get X (pc := 39) (v := .ref (a 1)) uw6 0 rfl rfl 0 (by decide) q_668 rfl rfl dX6_set_39 ?_
        refine v_iload_n X (pc := 42) dX6_set_42 rfl 1 rfl ?_
        obtain ⟨g43, h⟩ := og h
        refine v_iald X (pc := 43) (v := ((q35 1) (Int32.toNatClampNeg x1))) 1 rfl (ib_in g43) rfl dX6_set_43 ?_
        refine v_istore_n X (pc := 44) (L2 := [(3, .int ((q35 1) (Int32.toNatClampNeg x1))), (0, .ref (a 0)), (1, .int x1), (2, .int x2)]) dX6_set_44 rfl (by decide) rfl ?_
        refine v_aload_n X (pc := 45) dX6_set_45 rfl 1 rfl ?_
        refine v_get X (pc := 46) (v := .ref (a 1)) uw6 0 rfl rfl 0 (by decide) q_668 rfl rfl dX6_set_46 ?_
        refine v_iload_n X (pc := 49) dX6_set_49 rfl 2 rfl ?_
        refine v_iload_n X (pc := 50) dX6_set_50 rfl 3 rfl ?_
        obtain ⟨g51, h⟩ := og h
        obtain ⟨m51, em51, h⟩ := lts h
        refine v_iast X (pc := 51) (w' := (wM x.g a m51)) 1 rfl (ib_in g51) (by rw [← em51]; rfl) dX6_set_51 ?_
        refine v_iload_n X (pc := 52) dX6_set_52 rfl 0 rfl ?_
        replace h := oi h
        subst h
        exact v_iret X (pc := 53) F dX6_set_53
      · replace h := hn (nbt c) h
        refine v_ldc X (pc := 31) (v := (-100002)) q_711 dX6_set_31 ?_
        replace h := oi h
        subst h
        exact v_iret X (pc := 33) F dX6_set_33
  · replace h := hn (nbt c) h
    refine v_ldc X (pc := 9) (v := (-100001)) q_710 dX6_set_9 ?_
    replace h := oi h
    subst h
    exact v_iret X (pc := 11) F dX6_set_11
theorem cw_X6_set : CwB yX6_set cX6_set 4 (Option.some FieldType.int) 2 := ⟨q_838, q_57, by decide, by decide, by decide +kernel⟩
def f_X6_append (μ : Blk) (x1 : Int32) : Option (Int32 × Blk) :=
  lt (f_X6_in x1 32 126) fun q5 => (if q5 = true then (if (μ 0 2) = 60 then some ((-100003), μ) else (if ib (μ 0 2) 60 = true then lt (upR μ 2 (upd (μ 2) (Int32.toNatClampNeg (μ 0 2)) (vp_nar .char (i2cF x1)))) fun m36 => lt (up m36 0 2 ((m36 0 2) + 1)) fun m44 => some ((m44 0 2), m44) else none)) else some ((-100002), μ))
set_option maxHeartbeats 4000000 in
set_option maxRecDepth 100000 in
theorem c_X6_append (l : Launch) (g : Gl) (a : Nat → Nat) (μ : Blk) (x1 : Int32) {res : Int32 × Blk} (h : f_X6_append μ x1 = some res) : Ok l g yX6_append cX6_append 2 (Option.some FieldType.int) 1 22 [.ref (a 0), .int x1] (wM g a μ) (some (.int res.1)) (wM g a res.2) := by
  refine Ok.of RX6 (by decide) rfl (Nat.le_of_ble_eq_true rfl) (fun x hl hg X F => ?_)
  subst hg; subst hl
  rw [f_X6_append] at h
  show V x (wM x.g a μ) [(0, .ref (a 0)), (1, .int x1)] [] 0
  refine v_iload_n X (pc := 0) dX6_append_0 rfl 1 rfl ?_
  refine v_bipush X (pc := 1) (v := 32) dX6_append_1 (by decide) ?_
  refine v_bipush X (pc := 3) (v := 126) dX6_append_3 (by decide) ?_
  obtain ⟨q5, e5, h⟩ := lts h
  refine v_callS X (pc := 5) (st1 := [.int (b2i q5)]) (w' := (wM x.g a μ)) [.int x1, .int 32, .int 126] [] (c_X6_in x.l x.g  x1 32 126 e5) rfl rfl cw_X6_in q_707 q_708 ⟨by decide, by decide⟩ Fr.nil rfl (Nat.le_of_ble_eq_true rfl) dX6_append_5 ?_
  refine v_ifneB X (pc := 8) (tgt := 14) dX6_append_8 (by decide) (fun c => ?_) (fun c => ?_)
  · replace h := hp c h
    refine v_aload_n X (pc := 14) dX6_append_14 rfl 0 rfl ?_
    refine v_get X (pc := 15) (v := .int (μ 0 2)) uw6 0 rfl rfl 4 (by decide) q_672 rfl rfl dX6_append_15 ?_
    refine v_bipush X (pc := 18) (v := 60) dX6_append_18 (by decide) ?_
    refine v_icmpne X (pc := 20) (tgt := 26) dX6_append_20 (by decide) (fun c => ?_) (fun c => ?_)
    · replace h := hn c h
      refine v_aload_n X (pc := 26) dX6_append_26 rfl 0 rfl ?_
      refine v_get X (pc := 27) (v := .ref (a 2)) uw6 0 rfl rfl 3 (by decide) q_671 rfl rfl dX6_append_27 ?_
      refine v_aload_n X (pc := 30) dX6_append_30 rfl 0 rfl ?_
      refine v_get X (pc := 31) (v := .int (μ 0 2)) uw6 0 rfl rfl 4 (by decide) q_672 rfl rfl dX6_append_31 ?_
      refine v_iload_n X (pc := 34) dX6_append_34 rfl 1 rfl ?_
      refine v_i2c X (pc := 35) (v := (i2cF x1)) dX6_append_35 rfl ?_
      obtain ⟨g36, h⟩ := og h
      obtain ⟨m36, em36, h⟩ := lts h
      refine v_cast X (pc := 36) (w' := (wM x.g a m36)) 2 rfl (ib_in g36) (by rw [← em36]; rfl) dX6_append_36 ?_
      refine v_aload_n X (pc := 37) dX6_append_37 rfl 0 rfl ?_
      refine v_dup X (pc := 38) dX6_append_38 rfl ?_
      refine v_get X (pc := 39) (v := .int (m36 0 2)) uw6 0 rfl rfl 4 (by decide) q_672 rfl rfl dX6_append_39 ?_
      refine v_iconst X (pc := 42) (v := 1) dX6_append_42 (by decide) ?_
      refine v_iadd X (pc := 43) dX6_append_43 ?_
      obtain ⟨m44, em44, h⟩ := lts h
      refine v_put X (pc := 44) (w' := (wM x.g a m44)) uw6 0 rfl rfl 4 (by decide) q_672 rfl tyX6 tyX6_ok nmX6 rfl rfl rfl (Nat.le_of_ble_eq_true rfl) (by rw [← em44]; rfl) dX6_append_44 ?_
      refine v_aload_n X (pc := 47) dX6_append_47 rfl 0 rfl ?_
      refine v_get X (pc := 48) (v := .int (m44 0 2)) uw6 0 rfl rfl 4 (by decide) q_672 rfl rfl dX6_append_48 ?_
      replace h := oi h
      subst h
      exact v_iret X (pc := 51) F dX6_append_51
    · replace h := hp c h
      refine v_ldc X (pc := 23) (v := (-100003)) q_712 dX6_append_23 ?_
      replace h := oi h
      subst h
      exact v_iret X (pc := 25) F dX6_append_25
  · replace h := hn (nbt c) h
    refine v_ldc X (pc := 11) (v := (-100002)) q_711 dX6_append_11 ?_
    replace h := oi h
    subst h
    exact v_iret X (pc := 13) F dX6_append_13
theorem cw_X6_append : CwB yX6_append cX6_append 2 (Option.some FieldType.int) 1 := ⟨q_842, q_57, by decide, by decide, by decide +kernel⟩
def f_X6_clearText (μ : Blk) : Int32 × Blk :=
  lt (up μ 0 2 0) fun m7 => ((μ 0 2), m7)
set_option maxHeartbeats 4000000 in
set_option maxRecDepth 100000 in
theorem c_X6_clearText (l : Launch) (g : Gl) (a : Nat → Nat) (μ : Blk) {res : Int32 × Blk} (h : f_X6_clearText μ = res) : Ok l g yX6_clearText cX6_clearText 2 (Option.some FieldType.int) 0 0 [.ref (a 0)] (wM g a μ) (some (.int res.1)) (wM g a res.2) := by
  refine Ok.of RX6 (by decide) rfl (Nat.le_of_ble_eq_true rfl) (fun x hl hg X F => ?_)
  subst hg; subst hl
  rw [f_X6_clearText] at h
  show V x (wM x.g a μ) [(0, .ref (a 0))] [] 0
  refine v_aload_n X (pc := 0) dX6_clearText_0 rfl 0 rfl ?_
  refine v_get X (pc := 1) (v := .int (μ 0 2)) uw6 0 rfl rfl 4 (by decide) q_672 rfl rfl dX6_clearText_1 ?_
  refine v_istore_n X (pc := 4) (L2 := [(1, .int (μ 0 2)), (0, .ref (a 0))]) dX6_clearText_4 rfl (by decide) rfl ?_
  refine v_aload_n X (pc := 5) dX6_clearText_5 rfl 1 rfl ?_
  refine v_iconst X (pc := 6) (v := 0) dX6_clearText_6 (by decide) ?_
  obtain ⟨m7, em7, h⟩ := lts h
  refine v_put X (pc := 7) (w' := (wM x.g a m7)) uw6 0 rfl rfl 4 (by decide) q_672 rfl tyX6 tyX6_ok nmX6 rfl rfl rfl (Nat.le_of_ble_eq_true rfl) (by rw [← em7]; rfl) dX6_clearText_7 ?_
  refine v_iload_n X (pc := 10) dX6_clearText_10 rfl 0 rfl ?_
  subst h
  exact v_iret X (pc := 11) F dX6_clearText_11
theorem cw_X6_clearText : CwB yX6_clearText cX6_clearText 2 (Option.some FieldType.int) 0 := ⟨q_846, q_57, by decide, by decide, by decide +kernel⟩
def f_X6_isNow (μ : Blk) (x1 : Int32) (x2 : Int32) : Option (Bool) :=
  (if (μ 0 4) = 0 then (if (μ 0 2) ≤ (μ 0 3) then some false else (if ib (μ 0 3) 60 = true then lt (f_X6_in ((μ 2) (Int32.toNatClampNeg (μ 0 3))) x1 x2) fun q29 => (if q29 = true then some true else some false) else none)) else some false)
set_option maxHeartbeats 4000000 in
set_option maxRecDepth 100000 in
theorem c_X6_isNow (l : Launch) (g : Gl) (a : Nat → Nat) (μ : Blk) (x1 : Int32) (x2 : Int32) {res : Bool} (h : f_X6_isNow μ x1 x2 = some res) : Ok l g yX6_isNow cX6_isNow 3 (Option.some FieldType.boolean) 1 22 [.ref (a 0), .int x1, .int x2] (wM g a μ) (some (.int (b2i res))) (wM g a μ) := by
  refine Ok.of RX6 (by decide) rfl (Nat.le_of_ble_eq_true rfl) (fun x hl hg X F => ?_)
  subst hg; subst hl
  rw [f_X6_isNow] at h
  show V x (wM x.g a μ) [(0, .ref (a 0)), (1, .int x1), (2, .int x2)] [] 0
  refine v_aload_n X (pc := 0) dX6_isNow_0 rfl 0 rfl ?_
  refine v_get X (pc := 1) (v := .int (μ 0 4)) uw6 0 rfl rfl 7 (by decide) q_675 rfl rfl dX6_isNow_1 ?_
  refine v_ifne X (pc := 4) (tgt := 39) dX6_isNow_4 (by decide) (fun c => ?_) (fun c => ?_)
  · replace h := hn c h
    refine v_iconst X (pc := 39) (v := 0) dX6_isNow_39 (by decide) ?_
    replace h := oi h
    subst h
    exact v_bret X (pc := 40) (b := false) F dX6_isNow_40
  · replace h := hp c h
    refine v_aload_n X (pc := 7) dX6_isNow_7 rfl 0 rfl ?_
    refine v_get X (pc := 8) (v := .int (μ 0 3)) uw6 0 rfl rfl 6 (by decide) q_674 rfl rfl dX6_isNow_8 ?_
    refine v_aload_n X (pc := 11) dX6_isNow_11 rfl 0 rfl ?_
    refine v_get X (pc := 12) (v := .int (μ 0 2)) uw6 0 rfl rfl 4 (by decide) q_672 rfl rfl dX6_isNow_12 ?_
    refine v_icmpge X (pc := 15) (tgt := 39) dX6_isNow_15 (by decide) (fun c => ?_) (fun c => ?_)
    · replace h := hp c h
      refine v_iconst X (pc := 39) (v := 0) dX6_isNow_39 (by decide) ?_
      replace h := oi h
      subst h
      exact v_bret X (pc := 40) (b := false) F dX6_isNow_40
    · replace h := hn c h
      refine v_aload_n X (pc := 18) dX6_isNow_18 rfl 0 rfl ?_
      refine v_get X (pc := 19) (v := .ref (a 2)) uw6 0 rfl rfl 3 (by decide) q_671 rfl rfl dX6_isNow_19 ?_
      refine v_aload_n X (pc := 22) dX6_isNow_22 rfl 0 rfl ?_
      refine v_get X (pc := 23) (v := .int (μ 0 3)) uw6 0 rfl rfl 6 (by decide) q_674 rfl rfl dX6_isNow_23 ?_
      obtain ⟨g26, h⟩ := og h
      refine v_cald X (pc := 26) (v := ((μ 2) (Int32.toNatClampNeg (μ 0 3)))) 2 rfl (ib_in g26) rfl dX6_isNow_26 ?_
      refine v_iload_n X (pc := 27) dX6_isNow_27 rfl 1 rfl ?_
      refine v_iload_n X (pc := 28) dX6_isNow_28 rfl 2 rfl ?_
      obtain ⟨q29, e29, h⟩ := lts h
      refine v_callS X (pc := 29) (st1 := [.int (b2i q29)]) (w' := (wM x.g a μ)) [.int ((μ 2) (Int32.toNatClampNeg (μ 0 3))), .int x1, .int x2] [] (c_X6_in x.l x.g  ((μ 2) (Int32.toNatClampNeg (μ 0 3))) x1 x2 e29) rfl rfl cw_X6_in q_707 q_708 ⟨by decide, by decide⟩ Fr.nil rfl (Nat.le_of_ble_eq_true rfl) dX6_isNow_29 ?_
      refine v_ifeqB X (pc := 32) (tgt := 39) dX6_isNow_32 (by decide) (fun c => ?_) (fun c => ?_)
      · replace h := hn (nbt c) h
        refine v_iconst X (pc := 39) (v := 0) dX6_isNow_39 (by decide) ?_
        replace h := oi h
        subst h
        exact v_bret X (pc := 40) (b := false) F dX6_isNow_40
      · replace h := hp c h
        refine v_iconst X (pc := 35) (v := 1) dX6_isNow_35 (by decide) ?_
        refine v_goto X (pc := 36) (tgt := 40) dX6_isNow_36 (by decide) ?_
        replace h := oi h
        subst h
        exact v_bret X (pc := 40) (b := true) F dX6_isNow_40
theorem cw_X6_isNow : CwB yX6_isNow cX6_isNow 3 (Option.some FieldType.boolean) 2 := ⟨q_862, q_57, by decide, by decide, by decide +kernel⟩
def f_X6_readsNumber (μ : Blk) : Option (Blk) :=
  (if (μ 0 4) = 0 then (f_X6_isNow μ 49 57).bind fun q13 => (if q13 = true then lt (up μ 0 4 0) fun m24 => lt (up m24 0 7 0) fun m29 => (if (m29 0 4) = 0 then (if ib (m29 0 3) 60 = true then lt (up m29 0 7 (((m29 2) (Int32.toNatClampNeg (m29 0 3))) - 48)) fun m52 => lt (up m52 0 3 ((m52 0 3) + 1)) fun m62 => (f_X6_isNow m62 48 57).bind fun q70 => (if q70 = true then (if ib (m62 0 3) 60 = true then lt (up m62 0 7 (((10 * (m62 0 7)) + ((m62 2) (Int32.toNatClampNeg (m62 0 3)))) - 48)) fun m97 => lt (up m97 0 3 ((m97 0 3) + 1)) fun m107 => some m107 else none) else some m62) else none) else some m29) else lt (up μ 0 4 1) fun m24 => lt (up m24 0 7 0) fun m29 => (if (m29 0 4) = 0 then (if ib (m29 0 3) 60 = true then lt (up m29 0 7 (((m29 2) (Int32.toNatClampNeg (m29 0 3))) - 48)) fun m52 => lt (up m52 0 3 ((m52 0 3) + 1)) fun m62 => (f_X6_isNow m62 48 57).bind fun q70 => (if q70 = true then (if ib (m62 0 3) 60 = true then lt (up m62 0 7 (((10 * (m62 0 7)) + ((m62 2) (Int32.toNatClampNeg (m62 0 3)))) - 48)) fun m97 => lt (up m97 0 3 ((m97 0 3) + 1)) fun m107 => some m107 else none) else some m62) else none) else some m29)) else lt (up μ 0 4 1) fun m24 => lt (up m24 0 7 0) fun m29 => (if (m29 0 4) = 0 then (if ib (m29 0 3) 60 = true then lt (up m29 0 7 (((m29 2) (Int32.toNatClampNeg (m29 0 3))) - 48)) fun m52 => lt (up m52 0 3 ((m52 0 3) + 1)) fun m62 => (f_X6_isNow m62 48 57).bind fun q70 => (if q70 = true then (if ib (m62 0 3) 60 = true then lt (up m62 0 7 (((10 * (m62 0 7)) + ((m62 2) (Int32.toNatClampNeg (m62 0 3)))) - 48)) fun m97 => lt (up m97 0 3 ((m97 0 3) + 1)) fun m107 => some m107 else none) else some m62) else none) else some m29))
set_option maxHeartbeats 4000000 in
set_option maxRecDepth 100000 in
theorem c_X6_readsNumber (l : Launch) (g : Gl) (a : Nat → Nat) (μ : Blk) {res : Blk} (h : f_X6_readsNumber μ = some res) : Ok l g yX6_readsNumber cX6_readsNumber 1 (Option.none : Option FieldType) 2 44 [.ref (a 0)] (wM g a μ) none (wM g a res) := by
  refine Ok.of RX6 (by decide) rfl (Nat.le_of_ble_eq_true rfl) (fun x hl hg X F => ?_)
  subst hg; subst hl
  rw [f_X6_readsNumber] at h
  show V x (wM x.g a μ) [(0, .ref (a 0))] [] 0
  refine v_aload_n X (pc := 0) dX6_readsNumber_0 rfl 0 rfl ?_
  refine v_aload_n X (pc := 1) dX6_readsNumber_1 rfl 0 rfl ?_
  refine v_get X (pc := 2) (v := .int (μ 0 4)) uw6 0 rfl rfl 7 (by decide) q_675 rfl rfl dX6_readsNumber_2 ?_
  refine v_ifne X (pc := 5) (tgt := 19) dX6_readsNumber_5 (by decide) (fun c => ?_) (fun c => ?_)
  · replace h := hn c h
    refine v_iconst X (pc := 19) (v := 1) dX6_readsNumber_19 (by decide) ?_
    refine v_goto X (pc := 20) (tgt := 24) dX6_readsNumber_20 (by decide) ?_
    obtain ⟨m24, em24, h⟩ := lts h
    refine v_put X (pc := 24) (w' := (wM x.g a m24)) uw6 0 rfl rfl 7 (by decide) q_675 rfl tyX6 tyX6_ok nmX6 rfl (by decide) (by decide) (Nat.le_of_ble_eq_true rfl) (by rw [← em24]; rfl) dX6_readsNumber_24 ?_
    refine v_aload_n X (pc := 27) dX6_readsNumber_27 rfl 0 rfl ?_
    refine v_iconst X (pc := 28) (v := 0) dX6_readsNumber_28 (by decide) ?_
    obtain ⟨m29, em29, h⟩ := lts h
    refine v_put X (pc := 29) (w' := (wM x.g a m29)) uw6 0 rfl rfl 10 (by decide) q_678 rfl tyX6 tyX6_ok nmX6 rfl rfl rfl (Nat.le_of_ble_eq_true rfl) (by rw [← em29]; rfl) dX6_readsNumber_29 ?_
    refine v_aload_n X (pc := 32) dX6_readsNumber_32 rfl 0 rfl ?_
    refine v_get X (pc := 33) (v := .int (m29 0 4)) uw6 0 rfl rfl 7 (by decide) q_675 rfl rfl dX6_readsNumber_33 ?_
    refine v_ifne X (pc := 36) (tgt := 110) dX6_readsNumber_36 (by decide) (fun c => ?_) (fun c => ?_)
    · replace h := hn c h
      replace h := oi h
      subst h
      exact v_vret X (pc := 110) F dX6_readsNumber_110
    · replace h := hp c h
      refine v_aload_n X (pc := 39) dX6_readsNumber_39 rfl 0 rfl ?_
      refine v_aload_n X (pc := 40) dX6_readsNumber_40 rfl 0 rfl ?_
      refine v_get X (pc := 41) (v := .ref (a 2)) uw6 0 rfl rfl 3 (by decide) q_671 rfl rfl dX6_readsNumber_41 ?_
      refine v_aload_n X (pc := 44) dX6_readsNumber_44 rfl 0 rfl ?_
      refine v_get X (pc := 45) (v := .int (m29 0 3)) uw6 0 rfl rfl 6 (by decide) q_674 rfl rfl dX6_readsNumber_45 ?_
      obtain ⟨g48, h⟩ := og h
      refine v_cald X (pc := 48) (v := ((m29 2) (Int32.toNatClampNeg (m29 0 3)))) 2 rfl (ib_in g48) rfl dX6_readsNumber_48 ?_
      refine v_bipush X (pc := 49) (v := 48) dX6_readsNumber_49 (by decide) ?_
      refine v_isub X (pc := 51) dX6_readsNumber_51 ?_
      obtain ⟨m52, em52, h⟩ := lts h
      refine v_put X (pc := 52) (w' := (wM x.g a m52)) uw6 0 rfl rfl 10 (by decide) q_678 rfl tyX6 tyX6_ok nmX6 rfl rfl rfl (Nat.le_of_ble_eq_true rfl) (by rw [← em52]; rfl) dX6_readsNumber_52 ?_
      refine v_aload_n X (pc := 55) dX6_readsNumber_55 rfl 0 rfl ?_
      refine v_dup X (pc := 56) dX6_readsNumber_56 rfl ?_
      refine v_get X (pc := 57) (v := .int (m52 0 3)) uw6 0 rfl rfl 6 (by decide) q_674 rfl rfl dX6_readsNumber_57 ?_
      refine v_iconst X (pc := 60) (v := 1) dX6_readsNumber_60 (by decide) ?_
      refine v_iadd X (pc := 61) dX6_readsNumber_61 ?_
      obtain ⟨m62, em62, h⟩ := lts h
      refine v_put X (pc := 62) (w' := (wM x.g a m62)) uw6 0 rfl rfl 6 (by decide) q_674 rfl tyX6 tyX6_ok nmX6 rfl rfl rfl (Nat.le_of_ble_eq_true rfl) (by rw [← em62]; rfl) dX6_readsNumber_62 ?_
      refine v_aload_n X (pc := 65) dX6_readsNumber_65 rfl 0 rfl ?_
      refine v_bipush X (pc := 66) (v := 48) dX6_readsNumber_66 (by decide) ?_
      refine v_bipush X (pc := 68) (v := 57) dX6_readsNumber_68 (by decide) ?_
      obtain ⟨q70, e70, h⟩ := ob h
      refine v_callV X (pc := 70) (st1 := [.int (b2i q70)]) (w' := (wM x.g a m62)) [.int 48, .int 57] [] (c_X6_isNow x.l x.g a m62 48 57 e70) rfl rfl cw_X6_isNow q_859 q_861 q_41 ⟨by decide, by decide⟩ 0 6 rfl rfl rfl (Fr.all rfl) rfl (Nat.le_of_ble_eq_true rfl) dX6_readsNumber_70 ?_
      refine v_ifeqB X (pc := 73) (tgt := 110) dX6_readsNumber_73 (by decide) (fun c => ?_) (fun c => ?_)
      · replace h := hn (nbt c) h
        replace h := oi h
        subst h
        exact v_vret X (pc := 110) F dX6_readsNumber_110
      · replace h := hp c h
        refine v_aload_n X (pc := 76) dX6_readsNumber_76 rfl 0 rfl ?_
        refine v_bipush X (pc := 77) (v := 10) dX6_readsNumber_77 (by decide) ?_
        refine v_aload_n X (pc := 79) dX6_readsNumber_79 rfl 0 rfl ?_
        refine v_get X (pc := 80) (v := .int (m62 0 7)) uw6 0 rfl rfl 10 (by decide) q_678 rfl rfl dX6_readsNumber_80 ?_
        refine v_imul X (pc := 83) dX6_readsNumber_83 ?_
        refine v_aload_n X (pc := 84) dX6_readsNumber_84 rfl 0 rfl ?_
        refine v_get X (pc := 85) (v := .ref (a 2)) uw6 0 rfl rfl 3 (by decide) q_671 rfl rfl dX6_readsNumber_85 ?_
        refine v_aload_n X (pc := 88) dX6_readsNumber_88 rfl 0 rfl ?_
        refine v_get X (pc := 89) (v := .int (m62 0 3)) uw6 0 rfl rfl 6 (by decide) q_674 rfl rfl dX6_readsNumber_89 ?_
        obtain ⟨g92, h⟩ := og h
        refine v_cald X (pc := 92) (v := ((m62 2) (Int32.toNatClampNeg (m62 0 3)))) 2 rfl (ib_in g92) rfl dX6_readsNumber_92 ?_
        refine v_iadd X (pc := 93) dX6_readsNumber_93 ?_
        refine v_bipush X (pc := 94) (v := 48) dX6_readsNumber_94 (by decide) ?_
        refine v_isub X (pc := 96) dX6_readsNumber_96 ?_
        obtain ⟨m97, em97, h⟩ := lts h
        refine v_put X (pc := 97) (w' := (wM x.g a m97)) uw6 0 rfl rfl 10 (by decide) q_678 rfl tyX6 tyX6_ok nmX6 rfl rfl rfl (Nat.le_of_ble_eq_true rfl) (by rw [← em97]; rfl) dX6_readsNumber_97 ?_
        refine v_aload_n X (pc := 100) dX6_readsNumber_100 rfl 0 rfl ?_
        refine v_dup X (pc := 101) dX6_readsNumber_101 rfl ?_
        refine v_get X (pc := 102) (v := .int (m97 0 3)) uw6 0 rfl rfl 6 (by decide) q_674 rfl rfl dX6_readsNumber_102 ?_
        refine v_iconst X (pc := 105) (v := 1) dX6_readsNumber_105 (by decide) ?_
        refine v_iadd X (pc := 106) dX6_readsNumber_106 ?_
        obtain ⟨m107, em107, h⟩ := lts h
        refine v_put X (pc := 107) (w' := (wM x.g a m107)) uw6 0 rfl rfl 6 (by decide) q_674 rfl tyX6 tyX6_ok nmX6 rfl rfl rfl (Nat.le_of_ble_eq_true rfl) (by rw [← em107]; rfl) dX6_readsNumber_107 ?_
        replace h := oi h
        subst h
        exact v_vret X (pc := 110) F dX6_readsNumber_110
  · replace h := hp c h
    refine v_aload_n X (pc := 8) dX6_readsNumber_8 rfl 0 rfl ?_
    refine v_bipush X (pc := 9) (v := 49) dX6_readsNumber_9 (by decide) ?_
    refine v_bipush X (pc := 11) (v := 57) dX6_readsNumber_11 (by decide) ?_
    obtain ⟨q13, e13, h⟩ := ob h
    refine v_callV X (pc := 13) (st1 := [.int (b2i q13), .ref (a 0)]) (w' := (wM x.g a μ)) [.int 49, .int 57] [.ref (a 0)] (c_X6_isNow x.l x.g a μ 49 57 e13) rfl rfl cw_X6_isNow q_859 q_861 q_41 ⟨by decide, by decide⟩ 0 6 rfl rfl rfl (Fr.all rfl) rfl (Nat.le_of_ble_eq_true rfl) dX6_readsNumber_13 ?_
    refine v_ifneB X (pc := 16) (tgt := 23) dX6_readsNumber_16 (by decide) (fun c => ?_) (fun c => ?_)
    · replace h := hp c h
      refine v_iconst X (pc := 23) (v := 0) dX6_readsNumber_23 (by decide) ?_
      obtain ⟨m24, em24, h⟩ := lts h
      refine v_put X (pc := 24) (w' := (wM x.g a m24)) uw6 0 rfl rfl 7 (by decide) q_675 rfl tyX6 tyX6_ok nmX6 rfl (by decide) (by decide) (Nat.le_of_ble_eq_true rfl) (by rw [← em24]; rfl) dX6_readsNumber_24 ?_
      refine v_aload_n X (pc := 27) dX6_readsNumber_27 rfl 0 rfl ?_
      refine v_iconst X (pc := 28) (v := 0) dX6_readsNumber_28 (by decide) ?_
      obtain ⟨m29, em29, h⟩ := lts h
      refine v_put X (pc := 29) (w' := (wM x.g a m29)) uw6 0 rfl rfl 10 (by decide) q_678 rfl tyX6 tyX6_ok nmX6 rfl rfl rfl (Nat.le_of_ble_eq_true rfl) (by rw [← em29]; rfl) dX6_readsNumber_29 ?_
      refine v_aload_n X (pc := 32) dX6_readsNumber_32 rfl 0 rfl ?_
      refine v_get X (pc := 33) (v := .int (m29 0 4)) uw6 0 rfl rfl 7 (by decide) q_675 rfl rfl dX6_readsNumber_33 ?_
      refine v_ifne X (pc := 36) (tgt := 110) dX6_readsNumber_36 (by decide) (fun c => ?_) (fun c => ?_)
      · replace h := hn c h
        replace h := oi h
        subst h
        exact v_vret X (pc := 110) F dX6_readsNumber_110
      · replace h := hp c h
        refine v_aload_n X (pc := 39) dX6_readsNumber_39 rfl 0 rfl ?_
        refine v_aload_n X (pc := 40) dX6_readsNumber_40 rfl 0 rfl ?_
        refine v_get X (pc := 41) (v := .ref (a 2)) uw6 0 rfl rfl 3 (by decide) q_671 rfl rfl dX6_readsNumber_41 ?_
        refine v_aload_n X (pc := 44) dX6_readsNumber_44 rfl 0 rfl ?_
        refine v_get X (pc := 45) (v := .int (m29 0 3)) uw6 0 rfl rfl 6 (by decide) q_674 rfl rfl dX6_readsNumber_45 ?_
        obtain ⟨g48, h⟩ := og h
        refine v_cald X (pc := 48) (v := ((m29 2) (Int32.toNatClampNeg (m29 0 3)))) 2 rfl (ib_in g48) rfl dX6_readsNumber_48 ?_
        refine v_bipush X (pc := 49) (v := 48) dX6_readsNumber_49 (by decide) ?_
        refine v_isub X (pc := 51) dX6_readsNumber_51 ?_
        obtain ⟨m52, em52, h⟩ := lts h
        refine v_put X (pc := 52) (w' := (wM x.g a m52)) uw6 0 rfl rfl 10 (by decide) q_678 rfl tyX6 tyX6_ok nmX6 rfl rfl rfl (Nat.le_of_ble_eq_true rfl) (by rw [← em52]; rfl) dX6_readsNumber_52 ?_
        refine v_aload_n X (pc := 55) dX6_readsNumber_55 rfl 0 rfl ?_
        refine v_dup X (pc := 56) dX6_readsNumber_56 rfl ?_
        refine v_get X (pc := 57) (v := .int (m52 0 3)) uw6 0 rfl rfl 6 (by decide) q_674 rfl rfl dX6_readsNumber_57 ?_
        refine v_iconst X (pc := 60) (v := 1) dX6_readsNumber_60 (by decide) ?_
        refine v_iadd X (pc := 61) dX6_readsNumber_61 ?_
        obtain ⟨m62, em62, h⟩ := lts h
        refine v_put X (pc := 62) (w' := (wM x.g a m62)) uw6 0 rfl rfl 6 (by decide) q_674 rfl tyX6 tyX6_ok nmX6 rfl rfl rfl (Nat.le_of_ble_eq_true rfl) (by rw [← em62]; rfl) dX6_readsNumber_62 ?_
        refine v_aload_n X (pc := 65) dX6_readsNumber_65 rfl 0 rfl ?_
        refine v_bipush X (pc := 66) (v := 48) dX6_readsNumber_66 (by decide) ?_
        refine v_bipush X (pc := 68) (v := 57) dX6_readsNumber_68 (by decide) ?_
        obtain ⟨q70, e70, h⟩ := ob h
        refine v_callV X (pc := 70) (st1 := [.int (b2i q70)]) (w' := (wM x.g a m62)) [.int 48, .int 57] [] (c_X6_isNow x.l x.g a m62 48 57 e70) rfl rfl cw_X6_isNow q_859 q_861 q_41 ⟨by decide, by decide⟩ 0 6 rfl rfl rfl (Fr.all rfl) rfl (Nat.le_of_ble_eq_true rfl) dX6_readsNumber_70 ?_
        refine v_ifeqB X (pc := 73) (tgt := 110) dX6_readsNumber_73 (by decide) (fun c => ?_) (fun c => ?_)
        · replace h := hn (nbt c) h
          replace h := oi h
          subst h
          exact v_vret X (pc := 110) F dX6_readsNumber_110
        · replace h := hp c h
          refine v_aload_n X (pc := 76) dX6_readsNumber_76 rfl 0 rfl ?_
          refine v_bipush X (pc := 77) (v := 10) dX6_readsNumber_77 (by decide) ?_
          refine v_aload_n X (pc := 79) dX6_readsNumber_79 rfl 0 rfl ?_
          refine v_get X (pc := 80) (v := .int (m62 0 7)) uw6 0 rfl rfl 10 (by decide) q_678 rfl rfl dX6_readsNumber_80 ?_
          refine v_imul X (pc := 83) dX6_readsNumber_83 ?_
          refine v_aload_n X (pc := 84) dX6_readsNumber_84 rfl 0 rfl ?_
          refine v_get X (pc := 85) (v := .ref (a 2)) uw6 0 rfl rfl 3 (by decide) q_671 rfl rfl dX6_readsNumber_85 ?_
          refine v_aload_n X (pc := 88) dX6_readsNumber_88 rfl 0 rfl ?_
          refine v_get X (pc := 89) (v := .int (m62 0 3)) uw6 0 rfl rfl 6 (by decide) q_674 rfl rfl dX6_readsNumber_89 ?_
          obtain ⟨g92, h⟩ := og h
          refine v_cald X (pc := 92) (v := ((m62 2) (Int32.toNatClampNeg (m62 0 3)))) 2 rfl (ib_in g92) rfl dX6_readsNumber_92 ?_
          refine v_iadd X (pc := 93) dX6_readsNumber_93 ?_
          refine v_bipush X (pc := 94) (v := 48) dX6_readsNumber_94 (by decide) ?_
          refine v_isub X (pc := 96) dX6_readsNumber_96 ?_
          obtain ⟨m97, em97, h⟩ := lts h
          refine v_put X (pc := 97) (w' := (wM x.g a m97)) uw6 0 rfl rfl 10 (by decide) q_678 rfl tyX6 tyX6_ok nmX6 rfl rfl rfl (Nat.le_of_ble_eq_true rfl) (by rw [← em97]; rfl) dX6_readsNumber_97 ?_
          refine v_aload_n X (pc := 100) dX6_readsNumber_100 rfl 0 rfl ?_
          refine v_dup X (pc := 101) dX6_readsNumber_101 rfl ?_
          refine v_get X (pc := 102) (v := .int (m97 0 3)) uw6 0 rfl rfl 6 (by decide) q_674 rfl rfl dX6_readsNumber_102 ?_
          refine v_iconst X (pc := 105) (v := 1) dX6_readsNumber_105 (by decide) ?_
          refine v_iadd X (pc := 106) dX6_readsNumber_106 ?_
          obtain ⟨m107, em107, h⟩ := lts h
          refine v_put X (pc := 107) (w' := (wM x.g a m107)) uw6 0 rfl rfl 6 (by decide) q_674 rfl tyX6 tyX6_ok nmX6 rfl rfl rfl (Nat.le_of_ble_eq_true rfl) (by rw [← em107]; rfl) dX6_readsNumber_107 ?_
          replace h := oi h
          subst h
          exact v_vret X (pc := 110) F dX6_readsNumber_110
    · replace h := hn (nbt c) h
      refine v_iconst X (pc := 19) (v := 1) dX6_readsNumber_19 (by decide) ?_
      refine v_goto X (pc := 20) (tgt := 24) dX6_readsNumber_20 (by decide) ?_
      obtain ⟨m24, em24, h⟩ := lts h
      refine v_put X (pc := 24) (w' := (wM x.g a m24)) uw6 0 rfl rfl 7 (by decide) q_675 rfl tyX6 tyX6_ok nmX6 rfl (by decide) (by decide) (Nat.le_of_ble_eq_true rfl) (by rw [← em24]; rfl) dX6_readsNumber_24 ?_
      refine v_aload_n X (pc := 27) dX6_readsNumber_27 rfl 0 rfl ?_
      refine v_iconst X (pc := 28) (v := 0) dX6_readsNumber_28 (by decide) ?_
      obtain ⟨m29, em29, h⟩ := lts h
      refine v_put X (pc := 29) (w' := (wM x.g a m29)) uw6 0 rfl rfl 10 (by decide) q_678 rfl tyX6 tyX6_ok nmX6 rfl rfl rfl (Nat.le_of_ble_eq_true rfl) (by rw [← em29]; rfl) dX6_readsNumber_29 ?_
      refine v_aload_n X (pc := 32) dX6_readsNumber_32 rfl 0 rfl ?_
      refine v_get X (pc := 33) (v := .int (m29 0 4)) uw6 0 rfl rfl 7 (by decide) q_675 rfl rfl dX6_readsNumber_33 ?_
      refine v_ifne X (pc := 36) (tgt := 110) dX6_readsNumber_36 (by decide) (fun c => ?_) (fun c => ?_)
      · replace h := hn c h
        replace h := oi h
        subst h
        exact v_vret X (pc := 110) F dX6_readsNumber_110
      · replace h := hp c h
        refine v_aload_n X (pc := 39) dX6_readsNumber_39 rfl 0 rfl ?_
        refine v_aload_n X (pc := 40) dX6_readsNumber_40 rfl 0 rfl ?_
        refine v_get X (pc := 41) (v := .ref (a 2)) uw6 0 rfl rfl 3 (by decide) q_671 rfl rfl dX6_readsNumber_41 ?_
        refine v_aload_n X (pc := 44) dX6_readsNumber_44 rfl 0 rfl ?_
        refine v_get X (pc := 45) (v := .int (m29 0 3)) uw6 0 rfl rfl 6 (by decide) q_674 rfl rfl dX6_readsNumber_45 ?_
        obtain ⟨g48, h⟩ := og h
        refine v_cald X (pc := 48) (v := ((m29 2) (Int32.toNatClampNeg (m29 0 3)))) 2 rfl (ib_in g48) rfl dX6_readsNumber_48 ?_
        refine v_bipush X (pc := 49) (v := 48) dX6_readsNumber_49 (by decide) ?_
        refine v_isub X (pc := 51) dX6_readsNumber_51 ?_
        obtain ⟨m52, em52, h⟩ := lts h
        refine v_put X (pc := 52) (w' := (wM x.g a m52)) uw6 0 rfl rfl 10 (by decide) q_678 rfl tyX6 tyX6_ok nmX6 rfl rfl rfl (Nat.le_of_ble_eq_true rfl) (by rw [← em52]; rfl) dX6_readsNumber_52 ?_
        refine v_aload_n X (pc := 55) dX6_readsNumber_55 rfl 0 rfl ?_
        refine v_dup X (pc := 56) dX6_readsNumber_56 rfl ?_
        refine v_get X (pc := 57) (v := .int (m52 0 3)) uw6 0 rfl rfl 6 (by decide) q_674 rfl rfl dX6_readsNumber_57 ?_
        refine v_iconst X (pc := 60) (v := 1) dX6_readsNumber_60 (by decide) ?_
        refine v_iadd X (pc := 61) dX6_readsNumber_61 ?_
        obtain ⟨m62, em62, h⟩ := lts h
        refine v_put X (pc := 62) (w' := (wM x.g a m62)) uw6 0 rfl rfl 6 (by decide) q_674 rfl tyX6 tyX6_ok nmX6 rfl rfl rfl (Nat.le_of_ble_eq_true rfl) (by rw [← em62]; rfl) dX6_readsNumber_62 ?_
        refine v_aload_n X (pc := 65) dX6_readsNumber_65 rfl 0 rfl ?_
        refine v_bipush X (pc := 66) (v := 48) dX6_readsNumber_66 (by decide) ?_
        refine v_bipush X (pc := 68) (v := 57) dX6_readsNumber_68 (by decide) ?_
        obtain ⟨q70, e70, h⟩ := ob h
        refine v_callV X (pc := 70) (st1 := [.int (b2i q70)]) (w' := (wM x.g a m62)) [.int 48, .int 57] [] (c_X6_isNow x.l x.g a m62 48 57 e70) rfl rfl cw_X6_isNow q_859 q_861 q_41 ⟨by decide, by decide⟩ 0 6 rfl rfl rfl (Fr.all rfl) rfl (Nat.le_of_ble_eq_true rfl) dX6_readsNumber_70 ?_
        refine v_ifeqB X (pc := 73) (tgt := 110) dX6_readsNumber_73 (by decide) (fun c => ?_) (fun c => ?_)
        · replace h := hn (nbt c) h
          replace h := oi h
          subst h
          exact v_vret X (pc := 110) F dX6_readsNumber_110
        · replace h := hp c h
          refine v_aload_n X (pc := 76) dX6_readsNumber_76 rfl 0 rfl ?_
          refine v_bipush X (pc := 77) (v := 10) dX6_readsNumber_77 (by decide) ?_
          refine v_aload_n X (pc := 79) dX6_readsNumber_79 rfl 0 rfl ?_
          refine v_get X (pc := 80) (v := .int (m62 0 7)) uw6 0 rfl rfl 10 (by decide) q_678 rfl rfl dX6_readsNumber_80 ?_
          refine v_imul X (pc := 83) dX6_readsNumber_83 ?_
          refine v_aload_n X (pc := 84) dX6_readsNumber_84 rfl 0 rfl ?_
          refine v_get X (pc := 85) (v := .ref (a 2)) uw6 0 rfl rfl 3 (by decide) q_671 rfl rfl dX6_readsNumber_85 ?_
          refine v_aload_n X (pc := 88) dX6_readsNumber_88 rfl 0 rfl ?_
          refine v_get X (pc := 89) (v := .int (m62 0 3)) uw6 0 rfl rfl 6 (by decide) q_674 rfl rfl dX6_readsNumber_89 ?_
          obtain ⟨g92, h⟩ := og h
          refine v_cald X (pc := 92) (v := ((m62 2) (Int32.toNatClampNeg (m62 0 3)))) 2 rfl (ib_in g92) rfl dX6_readsNumber_92 ?_
          refine v_iadd X (pc := 93) dX6_readsNumber_93 ?_
          refine v_bipush X (pc := 94) (v := 48) dX6_readsNumber_94 (by decide) ?_
          refine v_isub X (pc := 96) dX6_readsNumber_96 ?_
          obtain ⟨m97, em97, h⟩ := lts h
          refine v_put X (pc := 97) (w' := (wM x.g a m97)) uw6 0 rfl rfl 10 (by decide) q_678 rfl tyX6 tyX6_ok nmX6 rfl rfl rfl (Nat.le_of_ble_eq_true rfl) (by rw [← em97]; rfl) dX6_readsNumber_97 ?_
          refine v_aload_n X (pc := 100) dX6_readsNumber_100 rfl 0 rfl ?_
          refine v_dup X (pc := 101) dX6_readsNumber_101 rfl ?_
          refine v_get X (pc := 102) (v := .int (m97 0 3)) uw6 0 rfl rfl 6 (by decide) q_674 rfl rfl dX6_readsNumber_102 ?_
          refine v_iconst X (pc := 105) (v := 1) dX6_readsNumber_105 (by decide) ?_
          refine v_iadd X (pc := 106) dX6_readsNumber_106 ?_
          obtain ⟨m107, em107, h⟩ := lts h
          refine v_put X (pc := 107) (w' := (wM x.g a m107)) uw6 0 rfl rfl 6 (by decide) q_674 rfl tyX6 tyX6_ok nmX6 rfl rfl rfl (Nat.le_of_ble_eq_true rfl) (by rw [← em107]; rfl) dX6_readsNumber_107 ?_
          replace h := oi h
          subst h
          exact v_vret X (pc := 110) F dX6_readsNumber_110
theorem cw_X6_readsNumber : CwB yX6_readsNumber cX6_readsNumber 1 (Option.none : Option FieldType) 0 := ⟨q_866, q_57, by decide, by decide, by decide +kernel⟩
def f_X6_readsOrder (μ : Blk) : Option (Blk) :=
  lt (up μ 0 5 32) fun m3 => (f_X6_isNow m3 104 104).bind fun q11 => (if q11 = true then lt (up m3 0 5 104) fun m20 => lt (up m20 0 3 ((m20 0 3) + 1)) fun m30 => (f_X6_readsNumber m30).bind fun q34 => some q34 else (f_X6_isNow m3 65 76).bind fun q45 => (if q45 = true then (if ib (m3 0 3) 60 = true then lt (up m3 0 6 (((m3 2) (Int32.toNatClampNeg (m3 0 3))) - 65)) fun m64 => lt (up m64 0 3 ((m64 0 3) + 1)) fun m74 => (f_X6_isNow m74 62 62).bind fun q82 => (if q82 = true then (if (m74 0 4) = 0 then lt (up m74 0 4 0) fun m144 => (if (m144 0 4) = 0 then (if ib (m144 0 3) 60 = true then (if isCh ((m144 2) (Int32.toNatClampNeg (m144 0 3))) = true then lt (up m144 0 5 ((m144 2) (Int32.toNatClampNeg (m144 0 3)))) fun m169 => (if (m169 0 4) = 0 then lt (up m169 0 3 ((m169 0 3) + 1)) fun m190 => (f_X6_readsNumber m190).bind fun q198 => some q198 else lt (up m169 0 3 ((m169 0 3) + 0)) fun m190 => (f_X6_readsNumber m190).bind fun q198 => some q198) else none) else none) else lt (up m144 0 5 32) fun m169 => (if (m169 0 4) = 0 then lt (up m169 0 3 ((m169 0 3) + 1)) fun m190 => (f_X6_readsNumber m190).bind fun q198 => some q198 else lt (up m169 0 3 ((m169 0 3) + 0)) fun m190 => (f_X6_readsNumber m190).bind fun q198 => some q198)) else lt (up m74 0 4 1) fun m144 => (if (m144 0 4) = 0 then (if ib (m144 0 3) 60 = true then (if isCh ((m144 2) (Int32.toNatClampNeg (m144 0 3))) = true then lt (up m144 0 5 ((m144 2) (Int32.toNatClampNeg (m144 0 3)))) fun m169 => (if (m169 0 4) = 0 then lt (up m169 0 3 ((m169 0 3) + 1)) fun m190 => (f_X6_readsNumber m190).bind fun q198 => some q198 else lt (up m169 0 3 ((m169 0 3) + 0)) fun m190 => (f_X6_readsNumber m190).bind fun q198 => some q198) else none) else none) else lt (up m144 0 5 32) fun m169 => (if (m169 0 4) = 0 then lt (up m169 0 3 ((m169 0 3) + 1)) fun m190 => (f_X6_readsNumber m190).bind fun q198 => some q198 else lt (up m169 0 3 ((m169 0 3) + 0)) fun m190 => (f_X6_readsNumber m190).bind fun q198 => some q198))) else (f_X6_isNow m74 60 60).bind fun q93 => (if q93 = true then (if (m74 0 4) = 0 then lt (up m74 0 4 0) fun m144 => (if (m144 0 4) = 0 then (if ib (m144 0 3) 60 = true then (if isCh ((m144 2) (Int32.toNatClampNeg (m144 0 3))) = true then lt (up m144 0 5 ((m144 2) (Int32.toNatClampNeg (m144 0 3)))) fun m169 => (if (m169 0 4) = 0 then lt (up m169 0 3 ((m169 0 3) + 1)) fun m190 => (f_X6_readsNumber m190).bind fun q198 => some q198 else lt (up m169 0 3 ((m169 0 3) + 0)) fun m190 => (f_X6_readsNumber m190).bind fun q198 => some q198) else none) else none) else lt (up m144 0 5 32) fun m169 => (if (m169 0 4) = 0 then lt (up m169 0 3 ((m169 0 3) + 1)) fun m190 => (f_X6_readsNumber m190).bind fun q198 => some q198 else lt (up m169 0 3 ((m169 0 3) + 0)) fun m190 => (f_X6_readsNumber m190).bind fun q198 => some q198)) else lt (up m74 0 4 1) fun m144 => (if (m144 0 4) = 0 then (if ib (m144 0 3) 60 = true then (if isCh ((m144 2) (Int32.toNatClampNeg (m144 0 3))) = true then lt (up m144 0 5 ((m144 2) (Int32.toNatClampNeg (m144 0 3)))) fun m169 => (if (m169 0 4) = 0 then lt (up m169 0 3 ((m169 0 3) + 1)) fun m190 => (f_X6_readsNumber m190).bind fun q198 => some q198 else lt (up m169 0 3 ((m169 0 3) + 0)) fun m190 => (f_X6_readsNumber m190).bind fun q198 => some q198) else none) else none) else lt (up m144 0 5 32) fun m169 => (if (m169 0 4) = 0 then lt (up m169 0 3 ((m169 0 3) + 1)) fun m190 => (f_X6_readsNumber m190).bind fun q198 => some q198 else lt (up m169 0 3 ((m169 0 3) + 0)) fun m190 => (f_X6_readsNumber m190).bind fun q198 => some q198))) else (if (m74 0 4) = 0 then (f_X6_isNow m74 97 97).bind fun q122 => (if q122 = true then lt (up m74 0 4 0) fun m144 => (if (m144 0 4) = 0 then (if ib (m144 0 3) 60 = true then (if isCh ((m144 2) (Int32.toNatClampNeg (m144 0 3))) = true then lt (up m144 0 5 ((m144 2) (Int32.toNatClampNeg (m144 0 3)))) fun m169 => (if (m169 0 4) = 0 then lt (up m169 0 3 ((m169 0 3) + 1)) fun m190 => some m190 else lt (up m169 0 3 ((m169 0 3) + 0)) fun m190 => some m190) else none) else none) else lt (up m144 0 5 32) fun m169 => (if (m169 0 4) = 0 then lt (up m169 0 3 ((m169 0 3) + 1)) fun m190 => some m190 else lt (up m169 0 3 ((m169 0 3) + 0)) fun m190 => some m190)) else (f_X6_isNow m74 114 114).bind fun q133 => (if q133 = true then lt (up m74 0 4 0) fun m144 => (if (m144 0 4) = 0 then (if ib (m144 0 3) 60 = true then (if isCh ((m144 2) (Int32.toNatClampNeg (m144 0 3))) = true then lt (up m144 0 5 ((m144 2) (Int32.toNatClampNeg (m144 0 3)))) fun m169 => (if (m169 0 4) = 0 then lt (up m169 0 3 ((m169 0 3) + 1)) fun m190 => some m190 else lt (up m169 0 3 ((m169 0 3) + 0)) fun m190 => some m190) else none) else none) else lt (up m144 0 5 32) fun m169 => (if (m169 0 4) = 0 then lt (up m169 0 3 ((m169 0 3) + 1)) fun m190 => some m190 else lt (up m169 0 3 ((m169 0 3) + 0)) fun m190 => some m190)) else lt (up m74 0 4 1) fun m144 => (if (m144 0 4) = 0 then (if ib (m144 0 3) 60 = true then (if isCh ((m144 2) (Int32.toNatClampNeg (m144 0 3))) = true then lt (up m144 0 5 ((m144 2) (Int32.toNatClampNeg (m144 0 3)))) fun m169 => (if (m169 0 4) = 0 then lt (up m169 0 3 ((m169 0 3) + 1)) fun m190 => some m190 else lt (up m169 0 3 ((m169 0 3) + 0)) fun m190 => some m190) else none) else none) else lt (up m144 0 5 32) fun m169 => (if (m169 0 4) = 0 then lt (up m169 0 3 ((m169 0 3) + 1)) fun m190 => some m190 else lt (up m169 0 3 ((m169 0 3) + 0)) fun m190 => some m190)))) else lt (up m74 0 4 1) fun m144 => (if (m144 0 4) = 0 then (if ib (m144 0 3) 60 = true then (if isCh ((m144 2) (Int32.toNatClampNeg (m144 0 3))) = true then lt (up m144 0 5 ((m144 2) (Int32.toNatClampNeg (m144 0 3)))) fun m169 => (if (m169 0 4) = 0 then lt (up m169 0 3 ((m169 0 3) + 1)) fun m190 => some m190 else lt (up m169 0 3 ((m169 0 3) + 0)) fun m190 => some m190) else none) else none) else lt (up m144 0 5 32) fun m169 => (if (m169 0 4) = 0 then lt (up m169 0 3 ((m169 0 3) + 1)) fun m190 => some m190 else lt (up m169 0 3 ((m169 0 3) + 0)) fun m190 => some m190))))) else none) else lt (up m3 0 4 1) fun m206 => some m206))
set_option maxHeartbeats 4000000 in
set_option maxRecDepth 100000 in
theorem c_X6_readsOrder (l : Launch) (g : Gl) (a : Nat → Nat) (μ : Blk) {res : Blk} (h : f_X6_readsOrder μ = some res) : Ok l g yX6_readsOrder cX6_readsOrder 2 (Option.none : Option FieldType) 3 64 [.ref (a 0)] (wM g a μ) none (wM g a res) := by
  refine Ok.of RX6 (by decide) rfl (Nat.le_of_ble_eq_true rfl) (fun x hl hg X F => ?_)
  subst hg; subst hl
  rw [f_X6_readsOrder] at h
  show V x (wM x.g a μ) [(0, .ref (a 0))] [] 0
  refine v_aload_n X (pc := 0) dX6_readsOrder_0 rfl 0 rfl ?_
  refine v_bipush X (pc := 1) (v := 32) dX6_readsOrder_1 (by decide) ?_
  obtain ⟨m3, em3, h⟩ := lts h
  refine v_put X (pc := 3) (w' := (wM x.g a m3)) uw6 0 rfl rfl 8 (by decide) q_676 rfl tyX6 tyX6_ok nmX6 rfl (by decide) (by decide) (Nat.le_of_ble_eq_true rfl) (by rw [← em3]; rfl) dX6_readsOrder_3 ?_
  refine v_aload_n X (pc := 6) dX6_readsOrder_6 rfl 0 rfl ?_
  refine v_bipush X (pc := 7) (v := 104) dX6_readsOrder_7 (by decide) ?_
  refine v_bipush X (pc := 9) (v := 104) dX6_readsOrder_9 (by decide) ?_
  obtain ⟨q11, e11, h⟩ := ob h
  refine v_callV X (pc := 11) (st1 := [.int (b2i q11)]) (w' := (wM x.g a m3)) [.int 104, .int 104] [] (c_X6_isNow x.l x.g a m3 104 104 e11) rfl rfl cw_X6_isNow q_859 q_861 q_41 ⟨by decide, by decide⟩ 0 6 rfl rfl rfl (Fr.all rfl) rfl (Nat.le_of_ble_eq_true rfl) dX6_readsOrder_11 ?_
  refine v_ifeqB X (pc := 14) (tgt := 40) dX6_readsOrder_14 (by decide) (fun c => ?_) (fun c => ?_)
  · replace h := hn (nbt c) h
    refine v_aload_n X (pc := 40) dX6_readsOrder_40 rfl 0 rfl ?_
    refine v_bipush X (pc := 41) (v := 65) dX6_readsOrder_41 (by decide) ?_
    refine v_bipush X (pc := 43) (v := 76) dX6_readsOrder_43 (by decide) ?_
    obtain ⟨q45, e45, h⟩ := ob h
    refine v_callV X (pc := 45) (st1 := [.int (b2i q45)]) (w' := (wM x.g a m3)) [.int 65, .int 76] [] (c_X6_isNow x.l x.g a m3 65 76 e45) rfl rfl cw_X6_isNow q_859 q_861 q_41 ⟨by decide, by decide⟩ 0 6 rfl rfl rfl (Fr.all rfl) rfl (Nat.le_of_ble_eq_true rfl) dX6_readsOrder_45 ?_
    refine v_ifeqB X (pc := 48) (tgt := 204) dX6_readsOrder_48 (by decide) (fun c => ?_) (fun c => ?_)
    · replace h := hn (nbt c) h
      refine v_aload_n X (pc := 204) dX6_readsOrder_204 rfl 0 rfl ?_
      refine v_iconst X (pc := 205) (v := 1) dX6_readsOrder_205 (by decide) ?_
      obtain ⟨m206, em206, h⟩ := lts h
      refine v_put X (pc := 206) (w' := (wM x.g a m206)) uw6 0 rfl rfl 7 (by decide) q_675 rfl tyX6 tyX6_ok nmX6 rfl (by decide) (by decide) (Nat.le_of_ble_eq_true rfl) (by rw [← em206]; rfl) dX6_readsOrder_206 ?_
      replace h := oi h
      subst h
      exact v_vret X (pc := 209) F dX6_readsOrder_209
    · replace h := hp c h
      refine v_aload_n X (pc := 51) dX6_readsOrder_51 rfl 0 rfl ?_
      refine v_aload_n X (pc := 52) dX6_readsOrder_52 rfl 0 rfl ?_
      refine v_get X (pc := 53) (v := .ref (a 2)) uw6 0 rfl rfl 3 (by decide) q_671 rfl rfl dX6_readsOrder_53 ?_
      refine v_aload_n X (pc := 56) dX6_readsOrder_56 rfl 0 rfl ?_
      refine v_get X (pc := 57) (v := .int (m3 0 3)) uw6 0 rfl rfl 6 (by decide) q_674 rfl rfl dX6_readsOrder_57 ?_
      obtain ⟨g60, h⟩ := og h
      refine v_cald X (pc := 60) (v := ((m3 2) (Int32.toNatClampNeg (m3 0 3)))) 2 rfl (ib_in g60) rfl dX6_readsOrder_60 ?_
      refine v_bipush X (pc := 61) (v := 65) dX6_readsOrder_61 (by decide) ?_
      refine v_isub X (pc := 63) dX6_readsOrder_63 ?_
      obtain ⟨m64, em64, h⟩ := lts h
      refine v_put X (pc := 64) (w' := (wM x.g a m64)) uw6 0 rfl rfl 9 (by decide) q_677 rfl tyX6 tyX6_ok nmX6 rfl rfl rfl (Nat.le_of_ble_eq_true rfl) (by rw [← em64]; rfl) dX6_readsOrder_64 ?_
      refine v_aload_n X (pc := 67) dX6_readsOrder_67 rfl 0 rfl ?_
      refine v_dup X (pc := 68) dX6_readsOrder_68 rfl ?_
      refine v_get X (pc := 69) (v := .int (m64 0 3)) uw6 0 rfl rfl 6 (by decide) q_674 rfl rfl dX6_readsOrder_69 ?_
      refine v_iconst X (pc := 72) (v := 1) dX6_readsOrder_72 (by decide) ?_
      refine v_iadd X (pc := 73) dX6_readsOrder_73 ?_
      obtain ⟨m74, em74, h⟩ := lts h
      refine v_put X (pc := 74) (w' := (wM x.g a m74)) uw6 0 rfl rfl 6 (by decide) q_674 rfl tyX6 tyX6_ok nmX6 rfl rfl rfl (Nat.le_of_ble_eq_true rfl) (by rw [← em74]; rfl) dX6_readsOrder_74 ?_
      refine v_aload_n X (pc := 77) dX6_readsOrder_77 rfl 0 rfl ?_
      refine v_bipush X (pc := 78) (v := 62) dX6_readsOrder_78 (by decide) ?_
      refine v_bipush X (pc := 80) (v := 62) dX6_readsOrder_80 (by decide) ?_
      obtain ⟨q82, e82, h⟩ := ob h
      refine v_callV X (pc := 82) (st1 := [.int (b2i q82)]) (w' := (wM x.g a m74)) [.int 62, .int 62] [] (c_X6_isNow x.l x.g a m74 62 62 e82) rfl rfl cw_X6_isNow q_859 q_861 q_41 ⟨by decide, by decide⟩ 0 6 rfl rfl rfl (Fr.all rfl) rfl (Nat.le_of_ble_eq_true rfl) dX6_readsOrder_82 ?_
      refine v_ifneB X (pc := 85) (tgt := 99) dX6_readsOrder_85 (by decide) (fun c => ?_) (fun c => ?_)
      · replace h := hp c h
        refine v_iconst X (pc := 99) (v := 1) dX6_readsOrder_99 (by decide) ?_
        refine v_goto X (pc := 100) (tgt := 104) dX6_readsOrder_100 (by decide) ?_
        refine v_istore_n X (pc := 104) (L2 := [(1, .int 1), (0, .ref (a 0))]) dX6_readsOrder_104 rfl (by decide) rfl ?_
        refine v_aload_n X (pc := 105) dX6_readsOrder_105 rfl 1 rfl ?_
        refine v_aload_n X (pc := 106) dX6_readsOrder_106 rfl 1 rfl ?_
        refine v_get X (pc := 107) (v := .int (m74 0 4)) uw6 0 rfl rfl 7 (by decide) q_675 rfl rfl dX6_readsOrder_107 ?_
        refine v_ifne X (pc := 110) (tgt := 139) dX6_readsOrder_110 (by decide) (fun c => ?_) (fun c => ?_)
        · replace h := hn c h
          refine v_iconst X (pc := 139) (v := 1) dX6_readsOrder_139 (by decide) ?_
          refine v_goto X (pc := 140) (tgt := 144) dX6_readsOrder_140 (by decide) ?_
          obtain ⟨m144, em144, h⟩ := lts h
          refine v_put X (pc := 144) (w' := (wM x.g a m144)) uw6 0 rfl rfl 7 (by decide) q_675 rfl tyX6 tyX6_ok nmX6 rfl (by decide) (by decide) (Nat.le_of_ble_eq_true rfl) (by rw [← em144]; rfl) dX6_readsOrder_144 ?_
          refine v_aload_n X (pc := 147) dX6_readsOrder_147 rfl 1 rfl ?_
          refine v_aload_n X (pc := 148) dX6_readsOrder_148 rfl 1 rfl ?_
          refine v_get X (pc := 149) (v := .int (m144 0 4)) uw6 0 rfl rfl 7 (by decide) q_675 rfl rfl dX6_readsOrder_149 ?_
          refine v_ifeq X (pc := 152) (tgt := 160) dX6_readsOrder_152 (by decide) (fun c => ?_) (fun c => ?_)
          · replace h := hp c h
            refine v_aload_n X (pc := 160) dX6_readsOrder_160 rfl 1 rfl ?_
            refine v_get X (pc := 161) (v := .ref (a 2)) uw6 0 rfl rfl 3 (by decide) q_671 rfl rfl dX6_readsOrder_161 ?_
            refine v_aload_n X (pc := 164) dX6_readsOrder_164 rfl 1 rfl ?_
            refine v_get X (pc := 165) (v := .int (m144 0 3)) uw6 0 rfl rfl 6 (by decide) q_674 rfl rfl dX6_readsOrder_165 ?_
            obtain ⟨g168, h⟩ := og h
            refine v_cald X (pc := 168) (v := ((m144 2) (Int32.toNatClampNeg (m144 0 3)))) 2 rfl (ib_in g168) rfl dX6_readsOrder_168 ?_
            obtain ⟨g169, h⟩ := og h
            obtain ⟨m169, em169, h⟩ := lts h
            refine v_put X (pc := 169) (w' := (wM x.g a m169)) uw6 0 rfl rfl 8 (by decide) q_676 rfl tyX6 tyX6_ok nmX6 rfl (nar_c g169) (fit_c g169) (Nat.le_of_ble_eq_true rfl) (by rw [← em169]; rfl) dX6_readsOrder_169 ?_
            refine v_aload_n X (pc := 172) dX6_readsOrder_172 rfl 1 rfl ?_
            refine v_dup X (pc := 173) dX6_readsOrder_173 rfl ?_
            refine v_get X (pc := 174) (v := .int (m169 0 3)) uw6 0 rfl rfl 6 (by decide) q_674 rfl rfl dX6_readsOrder_174 ?_
            refine v_aload_n X (pc := 177) dX6_readsOrder_177 rfl 1 rfl ?_
            refine v_get X (pc := 178) (v := .int (m169 0 4)) uw6 0 rfl rfl 7 (by decide) q_675 rfl rfl dX6_readsOrder_178 ?_
            refine v_ifeq X (pc := 181) (tgt := 188) dX6_readsOrder_181 (by decide) (fun c => ?_) (fun c => ?_)
            · replace h := hp c h
              refine v_iconst X (pc := 188) (v := 1) dX6_readsOrder_188 (by decide) ?_
              refine v_iadd X (pc := 189) dX6_readsOrder_189 ?_
              obtain ⟨m190, em190, h⟩ := lts h
              refine v_put X (pc := 190) (w' := (wM x.g a m190)) uw6 0 rfl rfl 6 (by decide) q_674 rfl tyX6 tyX6_ok nmX6 rfl rfl rfl (Nat.le_of_ble_eq_true rfl) (by rw [← em190]; rfl) dX6_readsOrder_190 ?_
              refine v_iload_n X (pc := 193) dX6_readsOrder_193 rfl 0 rfl ?_
              refine v_ifeq X (pc := 194) (tgt := 201) dX6_readsOrder_194 (by decide) (fun c => absurd c (by decide)) (fun _ => ?_)
              refine v_aload_n X (pc := 197) dX6_readsOrder_197 rfl 1 rfl ?_
              obtain ⟨q198, e198, h⟩ := ob h
              refine v_callV X (pc := 198) (st1 := []) (w' := (wM x.g a q198)) [] [] (c_X6_readsNumber x.l x.g a m190 e198) rfl rfl cw_X6_readsNumber q_863 q_865 q_42 ⟨by decide, by decide⟩ 0 6 rfl rfl rfl (Fr.all rfl) rfl (Nat.le_of_ble_eq_true rfl) dX6_readsOrder_198 ?_
              refine v_goto X (pc := 201) (tgt := 209) dX6_readsOrder_201 (by decide) ?_
              replace h := oi h
              subst h
              exact v_vret X (pc := 209) F dX6_readsOrder_209
            · replace h := hn c h
              refine v_iconst X (pc := 184) (v := 0) dX6_readsOrder_184 (by decide) ?_
              refine v_goto X (pc := 185) (tgt := 189) dX6_readsOrder_185 (by decide) ?_
              refine v_iadd X (pc := 189) dX6_readsOrder_189 ?_
              obtain ⟨m190, em190, h⟩ := lts h
              refine v_put X (pc := 190) (w' := (wM x.g a m190)) uw6 0 rfl rfl 6 (by decide) q_674 rfl tyX6 tyX6_ok nmX6 rfl rfl rfl (Nat.le_of_ble_eq_true rfl) (by rw [← em190]; rfl) dX6_readsOrder_190 ?_
              refine v_iload_n X (pc := 193) dX6_readsOrder_193 rfl 0 rfl ?_
              refine v_ifeq X (pc := 194) (tgt := 201) dX6_readsOrder_194 (by decide) (fun c => absurd c (by decide)) (fun _ => ?_)
              refine v_aload_n X (pc := 197) dX6_readsOrder_197 rfl 1 rfl ?_
              obtain ⟨q198, e198, h⟩ := ob h
              refine v_callV X (pc := 198) (st1 := []) (w' := (wM x.g a q198)) [] [] (c_X6_readsNumber x.l x.g a m190 e198) rfl rfl cw_X6_readsNumber q_863 q_865 q_42 ⟨by decide, by decide⟩ 0 6 rfl rfl rfl (Fr.all rfl) rfl (Nat.le_of_ble_eq_true rfl) dX6_readsOrder_198 ?_
              refine v_goto X (pc := 201) (tgt := 209) dX6_readsOrder_201 (by decide) ?_
              replace h := oi h
              subst h
              exact v_vret X (pc := 209) F dX6_readsOrder_209
          · replace h := hn c h
            refine v_bipush X (pc := 155) (v := 32) dX6_readsOrder_155 (by decide) ?_
            refine v_goto X (pc := 157) (tgt := 169) dX6_readsOrder_157 (by decide) ?_
            obtain ⟨m169, em169, h⟩ := lts h
            refine v_put X (pc := 169) (w' := (wM x.g a m169)) uw6 0 rfl rfl 8 (by decide) q_676 rfl tyX6 tyX6_ok nmX6 rfl (by decide) (by decide) (Nat.le_of_ble_eq_true rfl) (by rw [← em169]; rfl) dX6_readsOrder_169 ?_
            refine v_aload_n X (pc := 172) dX6_readsOrder_172 rfl 1 rfl ?_
            refine v_dup X (pc := 173) dX6_readsOrder_173 rfl ?_
            refine v_get X (pc := 174) (v := .int (m169 0 3)) uw6 0 rfl rfl 6 (by decide) q_674 rfl rfl dX6_readsOrder_174 ?_
            refine v_aload_n X (pc := 177) dX6_readsOrder_177 rfl 1 rfl ?_
            refine v_get X (pc := 178) (v := .int (m169 0 4)) uw6 0 rfl rfl 7 (by decide) q_675 rfl rfl dX6_readsOrder_178 ?_
            refine v_ifeq X (pc := 181) (tgt := 188) dX6_readsOrder_181 (by decide) (fun c => ?_) (fun c => ?_)
            · replace h := hp c h
              refine v_iconst X (pc := 188) (v := 1) dX6_readsOrder_188 (by decide) ?_
              refine v_iadd X (pc := 189) dX6_readsOrder_189 ?_
              obtain ⟨m190, em190, h⟩ := lts h
              refine v_put X (pc := 190) (w' := (wM x.g a m190)) uw6 0 rfl rfl 6 (by decide) q_674 rfl tyX6 tyX6_ok nmX6 rfl rfl rfl (Nat.le_of_ble_eq_true rfl) (by rw [← em190]; rfl) dX6_readsOrder_190 ?_
              refine v_iload_n X (pc := 193) dX6_readsOrder_193 rfl 0 rfl ?_
              refine v_ifeq X (pc := 194) (tgt := 201) dX6_readsOrder_194 (by decide) (fun c => absurd c (by decide)) (fun _ => ?_)
              refine v_aload_n X (pc := 197) dX6_readsOrder_197 rfl 1 rfl ?_
              obtain ⟨q198, e198, h⟩ := ob h
              refine v_callV X (pc := 198) (st1 := []) (w' := (wM x.g a q198)) [] [] (c_X6_readsNumber x.l x.g a m190 e198) rfl rfl cw_X6_readsNumber q_863 q_865 q_42 ⟨by decide, by decide⟩ 0 6 rfl rfl rfl (Fr.all rfl) rfl (Nat.le_of_ble_eq_true rfl) dX6_readsOrder_198 ?_
              refine v_goto X (pc := 201) (tgt := 209) dX6_readsOrder_201 (by decide) ?_
              replace h := oi h
              subst h
              exact v_vret X (pc := 209) F dX6_readsOrder_209
            · replace h := hn c h
              refine v_iconst X (pc := 184) (v := 0) dX6_readsOrder_184 (by decide) ?_
              refine v_goto X (pc := 185) (tgt := 189) dX6_readsOrder_185 (by decide) ?_
              refine v_iadd X (pc := 189) dX6_readsOrder_189 ?_
              obtain ⟨m190, em190, h⟩ := lts h
              refine v_put X (pc := 190) (w' := (wM x.g a m190)) uw6 0 rfl rfl 6 (by decide) q_674 rfl tyX6 tyX6_ok nmX6 rfl rfl rfl (Nat.le_of_ble_eq_true rfl) (by rw [← em190]; rfl) dX6_readsOrder_190 ?_
              refine v_iload_n X (pc := 193) dX6_readsOrder_193 rfl 0 rfl ?_
              refine v_ifeq X (pc := 194) (tgt := 201) dX6_readsOrder_194 (by decide) (fun c => absurd c (by decide)) (fun _ => ?_)
              refine v_aload_n X (pc := 197) dX6_readsOrder_197 rfl 1 rfl ?_
              obtain ⟨q198, e198, h⟩ := ob h
              refine v_callV X (pc := 198) (st1 := []) (w' := (wM x.g a q198)) [] [] (c_X6_readsNumber x.l x.g a m190 e198) rfl rfl cw_X6_readsNumber q_863 q_865 q_42 ⟨by decide, by decide⟩ 0 6 rfl rfl rfl (Fr.all rfl) rfl (Nat.le_of_ble_eq_true rfl) dX6_readsOrder_198 ?_
              refine v_goto X (pc := 201) (tgt := 209) dX6_readsOrder_201 (by decide) ?_
              replace h := oi h
              subst h
              exact v_vret X (pc := 209) F dX6_readsOrder_209
        · replace h := hp c h
          refine v_iload_n X (pc := 113) dX6_readsOrder_113 rfl 0 rfl ?_
          refine v_ifne X (pc := 114) (tgt := 143) dX6_readsOrder_114 (by decide) (fun _ => ?_) (fun c => absurd c (by decide))
          refine v_iconst X (pc := 143) (v := 0) dX6_readsOrder_143 (by decide) ?_
          obtain ⟨m144, em144, h⟩ := lts h
          refine v_put X (pc := 144) (w' := (wM x.g a m144)) uw6 0 rfl rfl 7 (by decide) q_675 rfl tyX6 tyX6_ok nmX6 rfl (by decide) (by decide) (Nat.le_of_ble_eq_true rfl) (by rw [← em144]; rfl) dX6_readsOrder_144 ?_
          refine v_aload_n X (pc := 147) dX6_readsOrder_147 rfl 1 rfl ?_
          refine v_aload_n X (pc := 148) dX6_readsOrder_148 rfl 1 rfl ?_
          refine v_get X (pc := 149) (v := .int (m144 0 4)) uw6 0 rfl rfl 7 (by decide) q_675 rfl rfl dX6_readsOrder_149 ?_
          refine v_ifeq X (pc := 152) (tgt := 160) dX6_readsOrder_152 (by decide) (fun c => ?_) (fun c => ?_)
          · replace h := hp c h
            refine v_aload_n X (pc := 160) dX6_readsOrder_160 rfl 1 rfl ?_
            refine v_get X (pc := 161) (v := .ref (a 2)) uw6 0 rfl rfl 3 (by decide) q_671 rfl rfl dX6_readsOrder_161 ?_
            refine v_aload_n X (pc := 164) dX6_readsOrder_164 rfl 1 rfl ?_
            refine v_get X (pc := 165) (v := .int (m144 0 3)) uw6 0 rfl rfl 6 (by decide) q_674 rfl rfl dX6_readsOrder_165 ?_
            obtain ⟨g168, h⟩ := og h
            refine v_cald X (pc := 168) (v := ((m144 2) (Int32.toNatClampNeg (m144 0 3)))) 2 rfl (ib_in g168) rfl dX6_readsOrder_168 ?_
            obtain ⟨g169, h⟩ := og h
            obtain ⟨m169, em169, h⟩ := lts h
            refine v_put X (pc := 169) (w' := (wM x.g a m169)) uw6 0 rfl rfl 8 (by decide) q_676 rfl tyX6 tyX6_ok nmX6 rfl (nar_c g169) (fit_c g169) (Nat.le_of_ble_eq_true rfl) (by rw [← em169]; rfl) dX6_readsOrder_169 ?_
            refine v_aload_n X (pc := 172) dX6_readsOrder_172 rfl 1 rfl ?_
            refine v_dup X (pc := 173) dX6_readsOrder_173 rfl ?_
            refine v_get X (pc := 174) (v := .int (m169 0 3)) uw6 0 rfl rfl 6 (by decide) q_674 rfl rfl dX6_readsOrder_174 ?_
            refine v_aload_n X (pc := 177) dX6_readsOrder_177 rfl 1 rfl ?_
            refine v_get X (pc := 178) (v := .int (m169 0 4)) uw6 0 rfl rfl 7 (by decide) q_675 rfl rfl dX6_readsOrder_178 ?_
            refine v_ifeq X (pc := 181) (tgt := 188) dX6_readsOrder_181 (by decide) (fun c => ?_) (fun c => ?_)
            · replace h := hp c h
              refine v_iconst X (pc := 188) (v := 1) dX6_readsOrder_188 (by decide) ?_
              refine v_iadd X (pc := 189) dX6_readsOrder_189 ?_
              obtain ⟨m190, em190, h⟩ := lts h
              refine v_put X (pc := 190) (w' := (wM x.g a m190)) uw6 0 rfl rfl 6 (by decide) q_674 rfl tyX6 tyX6_ok nmX6 rfl rfl rfl (Nat.le_of_ble_eq_true rfl) (by rw [← em190]; rfl) dX6_readsOrder_190 ?_
              refine v_iload_n X (pc := 193) dX6_readsOrder_193 rfl 0 rfl ?_
              refine v_ifeq X (pc := 194) (tgt := 201) dX6_readsOrder_194 (by decide) (fun c => absurd c (by decide)) (fun _ => ?_)
              refine v_aload_n X (pc := 197) dX6_readsOrder_197 rfl 1 rfl ?_
              obtain ⟨q198, e198, h⟩ := ob h
              refine v_callV X (pc := 198) (st1 := []) (w' := (wM x.g a q198)) [] [] (c_X6_readsNumber x.l x.g a m190 e198) rfl rfl cw_X6_readsNumber q_863 q_865 q_42 ⟨by decide, by decide⟩ 0 6 rfl rfl rfl (Fr.all rfl) rfl (Nat.le_of_ble_eq_true rfl) dX6_readsOrder_198 ?_
              refine v_goto X (pc := 201) (tgt := 209) dX6_readsOrder_201 (by decide) ?_
              replace h := oi h
              subst h
              exact v_vret X (pc := 209) F dX6_readsOrder_209
            · replace h := hn c h
              refine v_iconst X (pc := 184) (v := 0) dX6_readsOrder_184 (by decide) ?_
              refine v_goto X (pc := 185) (tgt := 189) dX6_readsOrder_185 (by decide) ?_
              refine v_iadd X (pc := 189) dX6_readsOrder_189 ?_
              obtain ⟨m190, em190, h⟩ := lts h
              refine v_put X (pc := 190) (w' := (wM x.g a m190)) uw6 0 rfl rfl 6 (by decide) q_674 rfl tyX6 tyX6_ok nmX6 rfl rfl rfl (Nat.le_of_ble_eq_true rfl) (by rw [← em190]; rfl) dX6_readsOrder_190 ?_
              refine v_iload_n X (pc := 193) dX6_readsOrder_193 rfl 0 rfl ?_
              refine v_ifeq X (pc := 194) (tgt := 201) dX6_readsOrder_194 (by decide) (fun c => absurd c (by decide)) (fun _ => ?_)
              refine v_aload_n X (pc := 197) dX6_readsOrder_197 rfl 1 rfl ?_
              obtain ⟨q198, e198, h⟩ := ob h
              refine v_callV X (pc := 198) (st1 := []) (w' := (wM x.g a q198)) [] [] (c_X6_readsNumber x.l x.g a m190 e198) rfl rfl cw_X6_readsNumber q_863 q_865 q_42 ⟨by decide, by decide⟩ 0 6 rfl rfl rfl (Fr.all rfl) rfl (Nat.le_of_ble_eq_true rfl) dX6_readsOrder_198 ?_
              refine v_goto X (pc := 201) (tgt := 209) dX6_readsOrder_201 (by decide) ?_
              replace h := oi h
              subst h
              exact v_vret X (pc := 209) F dX6_readsOrder_209
          · replace h := hn c h
            refine v_bipush X (pc := 155) (v := 32) dX6_readsOrder_155 (by decide) ?_
            refine v_goto X (pc := 157) (tgt := 169) dX6_readsOrder_157 (by decide) ?_
            obtain ⟨m169, em169, h⟩ := lts h
            refine v_put X (pc := 169) (w' := (wM x.g a m169)) uw6 0 rfl rfl 8 (by decide) q_676 rfl tyX6 tyX6_ok nmX6 rfl (by decide) (by decide) (Nat.le_of_ble_eq_true rfl) (by rw [← em169]; rfl) dX6_readsOrder_169 ?_
            refine v_aload_n X (pc := 172) dX6_readsOrder_172 rfl 1 rfl ?_
            refine v_dup X (pc := 173) dX6_readsOrder_173 rfl ?_
            refine v_get X (pc := 174) (v := .int (m169 0 3)) uw6 0 rfl rfl 6 (by decide) q_674 rfl rfl dX6_readsOrder_174 ?_
            refine v_aload_n X (pc := 177) dX6_readsOrder_177 rfl 1 rfl ?_
            refine v_get X (pc := 178) (v := .int (m169 0 4)) uw6 0 rfl rfl 7 (by decide) q_675 rfl rfl dX6_readsOrder_178 ?_
            refine v_ifeq X (pc := 181) (tgt := 188) dX6_readsOrder_181 (by decide) (fun c => ?_) (fun c => ?_)
            · replace h := hp c h
              refine v_iconst X (pc := 188) (v := 1) dX6_readsOrder_188 (by decide) ?_
              refine v_iadd X (pc := 189) dX6_readsOrder_189 ?_
              obtain ⟨m190, em190, h⟩ := lts h
              refine v_put X (pc := 190) (w' := (wM x.g a m190)) uw6 0 rfl rfl 6 (by decide) q_674 rfl tyX6 tyX6_ok nmX6 rfl rfl rfl (Nat.le_of_ble_eq_true rfl) (by rw [← em190]; rfl) dX6_readsOrder_190 ?_
              refine v_iload_n X (pc := 193) dX6_readsOrder_193 rfl 0 rfl ?_
              refine v_ifeq X (pc := 194) (tgt := 201) dX6_readsOrder_194 (by decide) (fun c => absurd c (by decide)) (fun _ => ?_)
              refine v_aload_n X (pc := 197) dX6_readsOrder_197 rfl 1 rfl ?_
              obtain ⟨q198, e198, h⟩ := ob h
              refine v_callV X (pc := 198) (st1 := []) (w' := (wM x.g a q198)) [] [] (c_X6_readsNumber x.l x.g a m190 e198) rfl rfl cw_X6_readsNumber q_863 q_865 q_42 ⟨by decide, by decide⟩ 0 6 rfl rfl rfl (Fr.all rfl) rfl (Nat.le_of_ble_eq_true rfl) dX6_readsOrder_198 ?_
              refine v_goto X (pc := 201) (tgt := 209) dX6_readsOrder_201 (by decide) ?_
              replace h := oi h
              subst h
              exact v_vret X (pc := 209) F dX6_readsOrder_209
            · replace h := hn c h
              refine v_iconst X (pc := 184) (v := 0) dX6_readsOrder_184 (by decide) ?_
              refine v_goto X (pc := 185) (tgt := 189) dX6_readsOrder_185 (by decide) ?_
              refine v_iadd X (pc := 189) dX6_readsOrder_189 ?_
              obtain ⟨m190, em190, h⟩ := lts h
              refine v_put X (pc := 190) (w' := (wM x.g a m190)) uw6 0 rfl rfl 6 (by decide) q_674 rfl tyX6 tyX6_ok nmX6 rfl rfl rfl (Nat.le_of_ble_eq_true rfl) (by rw [← em190]; rfl) dX6_readsOrder_190 ?_
              refine v_iload_n X (pc := 193) dX6_readsOrder_193 rfl 0 rfl ?_
              refine v_ifeq X (pc := 194) (tgt := 201) dX6_readsOrder_194 (by decide) (fun c => absurd c (by decide)) (fun _ => ?_)
              refine v_aload_n X (pc := 197) dX6_readsOrder_197 rfl 1 rfl ?_
              obtain ⟨q198, e198, h⟩ := ob h
              refine v_callV X (pc := 198) (st1 := []) (w' := (wM x.g a q198)) [] [] (c_X6_readsNumber x.l x.g a m190 e198) rfl rfl cw_X6_readsNumber q_863 q_865 q_42 ⟨by decide, by decide⟩ 0 6 rfl rfl rfl (Fr.all rfl) rfl (Nat.le_of_ble_eq_true rfl) dX6_readsOrder_198 ?_
              refine v_goto X (pc := 201) (tgt := 209) dX6_readsOrder_201 (by decide) ?_
              replace h := oi h
              subst h
              exact v_vret X (pc := 209) F dX6_readsOrder_209
      · replace h := hn (nbt c) h
        refine v_aload_n X (pc := 88) dX6_readsOrder_88 rfl 0 rfl ?_
        refine v_bipush X (pc := 89) (v := 60) dX6_readsOrder_89 (by decide) ?_
        refine v_bipush X (pc := 91) (v := 60) dX6_readsOrder_91 (by decide) ?_
        obtain ⟨q93, e93, h⟩ := ob h
        refine v_callV X (pc := 93) (st1 := [.int (b2i q93)]) (w' := (wM x.g a m74)) [.int 60, .int 60] [] (c_X6_isNow x.l x.g a m74 60 60 e93) rfl rfl cw_X6_isNow q_859 q_861 q_41 ⟨by decide, by decide⟩ 0 6 rfl rfl rfl (Fr.all rfl) rfl (Nat.le_of_ble_eq_true rfl) dX6_readsOrder_93 ?_
        refine v_ifeqB X (pc := 96) (tgt := 103) dX6_readsOrder_96 (by decide) (fun c => ?_) (fun c => ?_)
        · replace h := hn (nbt c) h
          refine v_iconst X (pc := 103) (v := 0) dX6_readsOrder_103 (by decide) ?_
          refine v_istore_n X (pc := 104) (L2 := [(1, .int 0), (0, .ref (a 0))]) dX6_readsOrder_104 rfl (by decide) rfl ?_
          refine v_aload_n X (pc := 105) dX6_readsOrder_105 rfl 1 rfl ?_
          refine v_aload_n X (pc := 106) dX6_readsOrder_106 rfl 1 rfl ?_
          refine v_get X (pc := 107) (v := .int (m74 0 4)) uw6 0 rfl rfl 7 (by decide) q_675 rfl rfl dX6_readsOrder_107 ?_
          refine v_ifne X (pc := 110) (tgt := 139) dX6_readsOrder_110 (by decide) (fun c => ?_) (fun c => ?_)
          · replace h := hn c h
            refine v_iconst X (pc := 139) (v := 1) dX6_readsOrder_139 (by decide) ?_
            refine v_goto X (pc := 140) (tgt := 144) dX6_readsOrder_140 (by decide) ?_
            obtain ⟨m144, em144, h⟩ := lts h
            refine v_put X (pc := 144) (w' := (wM x.g a m144)) uw6 0 rfl rfl 7 (by decide) q_675 rfl tyX6 tyX6_ok nmX6 rfl (by decide) (by decide) (Nat.le_of_ble_eq_true rfl) (by rw [← em144]; rfl) dX6_readsOrder_144 ?_
            refine v_aload_n X (pc := 147) dX6_readsOrder_147 rfl 1 rfl ?_
            refine v_aload_n X (pc := 148) dX6_readsOrder_148 rfl 1 rfl ?_
            refine v_get X (pc := 149) (v := .int (m144 0 4)) uw6 0 rfl rfl 7 (by decide) q_675 rfl rfl dX6_readsOrder_149 ?_
            refine v_ifeq X (pc := 152) (tgt := 160) dX6_readsOrder_152 (by decide) (fun c => ?_) (fun c => ?_)
            · replace h := hp c h
              refine v_aload_n X (pc := 160) dX6_readsOrder_160 rfl 1 rfl ?_
              refine v_get X (pc := 161) (v := .ref (a 2)) uw6 0 rfl rfl 3 (by decide) q_671 rfl rfl dX6_readsOrder_161 ?_
              refine v_aload_n X (pc := 164) dX6_readsOrder_164 rfl 1 rfl ?_
              refine v_get X (pc := 165) (v := .int (m144 0 3)) uw6 0 rfl rfl 6 (by decide) q_674 rfl rfl dX6_readsOrder_165 ?_
              obtain ⟨g168, h⟩ := og h
              refine v_cald X (pc := 168) (v := ((m144 2) (Int32.toNatClampNeg (m144 0 3)))) 2 rfl (ib_in g168) rfl dX6_readsOrder_168 ?_
              obtain ⟨g169, h⟩ := og h
              obtain ⟨m169, em169, h⟩ := lts h
              refine v_put X (pc := 169) (w' := (wM x.g a m169)) uw6 0 rfl rfl 8 (by decide) q_676 rfl tyX6 tyX6_ok nmX6 rfl (nar_c g169) (fit_c g169) (Nat.le_of_ble_eq_true rfl) (by rw [← em169]; rfl) dX6_readsOrder_169 ?_
              refine v_aload_n X (pc := 172) dX6_readsOrder_172 rfl 1 rfl ?_
              refine v_dup X (pc := 173) dX6_readsOrder_173 rfl ?_
              refine v_get X (pc := 174) (v := .int (m169 0 3)) uw6 0 rfl rfl 6 (by decide) q_674 rfl rfl dX6_readsOrder_174 ?_
              refine v_aload_n X (pc := 177) dX6_readsOrder_177 rfl 1 rfl ?_
              refine v_get X (pc := 178) (v := .int (m169 0 4)) uw6 0 rfl rfl 7 (by decide) q_675 rfl rfl dX6_readsOrder_178 ?_
              refine v_ifeq X (pc := 181) (tgt := 188) dX6_readsOrder_181 (by decide) (fun c => ?_) (fun c => ?_)
              · replace h := hp c h
                refine v_iconst X (pc := 188) (v := 1) dX6_readsOrder_188 (by decide) ?_
                refine v_iadd X (pc := 189) dX6_readsOrder_189 ?_
                obtain ⟨m190, em190, h⟩ := lts h
                refine v_put X (pc := 190) (w' := (wM x.g a m190)) uw6 0 rfl rfl 6 (by decide) q_674 rfl tyX6 tyX6_ok nmX6 rfl rfl rfl (Nat.le_of_ble_eq_true rfl) (by rw [← em190]; rfl) dX6_readsOrder_190 ?_
                refine v_iload_n X (pc := 193) dX6_readsOrder_193 rfl 0 rfl ?_
                refine v_ifeq X (pc := 194) (tgt := 201) dX6_readsOrder_194 (by decide) (fun _ => ?_) (fun c => absurd c (by decide))
                refine v_goto X (pc := 201) (tgt := 209) dX6_readsOrder_201 (by decide) ?_
                replace h := oi h
                subst h
                exact v_vret X (pc := 209) F dX6_readsOrder_209
              · replace h := hn c h
                refine v_iconst X (pc := 184) (v := 0) dX6_readsOrder_184 (by decide) ?_
                refine v_goto X (pc := 185) (tgt := 189) dX6_readsOrder_185 (by decide) ?_
                refine v_iadd X (pc := 189) dX6_readsOrder_189 ?_
                obtain ⟨m190, em190, h⟩ := lts h
                refine v_put X (pc := 190) (w' := (wM x.g a m190)) uw6 0 rfl rfl 6 (by decide) q_674 rfl tyX6 tyX6_ok nmX6 rfl rfl rfl (Nat.le_of_ble_eq_true rfl) (by rw [← em190]; rfl) dX6_readsOrder_190 ?_
                refine v_iload_n X (pc := 193) dX6_readsOrder_193 rfl 0 rfl ?_
                refine v_ifeq X (pc := 194) (tgt := 201) dX6_readsOrder_194 (by decide) (fun _ => ?_) (fun c => absurd c (by decide))
                refine v_goto X (pc := 201) (tgt := 209) dX6_readsOrder_201 (by decide) ?_
                replace h := oi h
                subst h
                exact v_vret X (pc := 209) F dX6_readsOrder_209
            · replace h := hn c h
              refine v_bipush X (pc := 155) (v := 32) dX6_readsOrder_155 (by decide) ?_
              refine v_goto X (pc := 157) (tgt := 169) dX6_readsOrder_157 (by decide) ?_
              obtain ⟨m169, em169, h⟩ := lts h
              refine v_put X (pc := 169) (w' := (wM x.g a m169)) uw6 0 rfl rfl 8 (by decide) q_676 rfl tyX6 tyX6_ok nmX6 rfl (by decide) (by decide) (Nat.le_of_ble_eq_true rfl) (by rw [← em169]; rfl) dX6_readsOrder_169 ?_
              refine v_aload_n X (pc := 172) dX6_readsOrder_172 rfl 1 rfl ?_
              refine v_dup X (pc := 173) dX6_readsOrder_173 rfl ?_
              refine v_get X (pc := 174) (v := .int (m169 0 3)) uw6 0 rfl rfl 6 (by decide) q_674 rfl rfl dX6_readsOrder_174 ?_
              refine v_aload_n X (pc := 177) dX6_readsOrder_177 rfl 1 rfl ?_
              refine v_get X (pc := 178) (v := .int (m169 0 4)) uw6 0 rfl rfl 7 (by decide) q_675 rfl rfl dX6_readsOrder_178 ?_
              refine v_ifeq X (pc := 181) (tgt := 188) dX6_readsOrder_181 (by decide) (fun c => ?_) (fun c => ?_)
              · replace h := hp c h
                refine v_iconst X (pc := 188) (v := 1) dX6_readsOrder_188 (by decide) ?_
                refine v_iadd X (pc := 189) dX6_readsOrder_189 ?_
                obtain ⟨m190, em190, h⟩ := lts h
                refine v_put X (pc := 190) (w' := (wM x.g a m190)) uw6 0 rfl rfl 6 (by decide) q_674 rfl tyX6 tyX6_ok nmX6 rfl rfl rfl (Nat.le_of_ble_eq_true rfl) (by rw [← em190]; rfl) dX6_readsOrder_190 ?_
                refine v_iload_n X (pc := 193) dX6_readsOrder_193 rfl 0 rfl ?_
                refine v_ifeq X (pc := 194) (tgt := 201) dX6_readsOrder_194 (by decide) (fun _ => ?_) (fun c => absurd c (by decide))
                refine v_goto X (pc := 201) (tgt := 209) dX6_readsOrder_201 (by decide) ?_
                replace h := oi h
                subst h
                exact v_vret X (pc := 209) F dX6_readsOrder_209
              · replace h := hn c h
                refine v_iconst X (pc := 184) (v := 0) dX6_readsOrder_184 (by decide) ?_
                refine v_goto X (pc := 185) (tgt := 189) dX6_readsOrder_185 (by decide) ?_
                refine v_iadd X (pc := 189) dX6_readsOrder_189 ?_
                obtain ⟨m190, em190, h⟩ := lts h
                refine v_put X (pc := 190) (w' := (wM x.g a m190)) uw6 0 rfl rfl 6 (by decide) q_674 rfl tyX6 tyX6_ok nmX6 rfl rfl rfl (Nat.le_of_ble_eq_true rfl) (by rw [← em190]; rfl) dX6_readsOrder_190 ?_
                refine v_iload_n X (pc := 193) dX6_readsOrder_193 rfl 0 rfl ?_
                refine v_ifeq X (pc := 194) (tgt := 201) dX6_readsOrder_194 (by decide) (fun _ => ?_) (fun c => absurd c (by decide))
                refine v_goto X (pc := 201) (tgt := 209) dX6_readsOrder_201 (by decide) ?_
                replace h := oi h
                subst h
                exact v_vret X (pc := 209) F dX6_readsOrder_209
          · replace h := hp c h
            refine v_iload_n X (pc := 113) dX6_readsOrder_113 rfl 0 rfl ?_
            refine v_ifne X (pc := 114) (tgt := 143) dX6_readsOrder_114 (by decide) (fun c => absurd c (by decide)) (fun _ => ?_)
            refine v_aload_n X (pc := 117) dX6_readsOrder_117 rfl 1 rfl ?_
            refine v_bipush X (pc := 118) (v := 97) dX6_readsOrder_118 (by decide) ?_
            refine v_bipush X (pc := 120) (v := 97) dX6_readsOrder_120 (by decide) ?_
            obtain ⟨q122, e122, h⟩ := ob h
            refine v_callV X (pc := 122) (st1 := [.int (b2i q122), .ref (a 0)]) (w' := (wM x.g a m74)) [.int 97, .int 97] [.ref (a 0)] (c_X6_isNow x.l x.g a m74 97 97 e122) rfl rfl cw_X6_isNow q_859 q_861 q_41 ⟨by decide, by decide⟩ 0 6 rfl rfl rfl (Fr.all rfl) rfl (Nat.le_of_ble_eq_true rfl) dX6_readsOrder_122 ?_
            refine v_ifneB X (pc := 125) (tgt := 143) dX6_readsOrder_125 (by decide) (fun c => ?_) (fun c => ?_)
            · replace h := hp c h
              refine v_iconst X (pc := 143) (v := 0) dX6_readsOrder_143 (by decide) ?_
              obtain ⟨m144, em144, h⟩ := lts h
              refine v_put X (pc := 144) (w' := (wM x.g a m144)) uw6 0 rfl rfl 7 (by decide) q_675 rfl tyX6 tyX6_ok nmX6 rfl (by decide) (by decide) (Nat.le_of_ble_eq_true rfl) (by rw [← em144]; rfl) dX6_readsOrder_144 ?_
              refine v_aload_n X (pc := 147) dX6_readsOrder_147 rfl 1 rfl ?_
              refine v_aload_n X (pc := 148) dX6_readsOrder_148 rfl 1 rfl ?_
              refine v_get X (pc := 149) (v := .int (m144 0 4)) uw6 0 rfl rfl 7 (by decide) q_675 rfl rfl dX6_readsOrder_149 ?_
              refine v_ifeq X (pc := 152) (tgt := 160) dX6_readsOrder_152 (by decide) (fun c => ?_) (fun c => ?_)
              · replace h := hp c h
                refine v_aload_n X (pc := 160) dX6_readsOrder_160 rfl 1 rfl ?_
                refine v_get X (pc := 161) (v := .ref (a 2)) uw6 0 rfl rfl 3 (by decide) q_671 rfl rfl dX6_readsOrder_161 ?_
                refine v_aload_n X (pc := 164) dX6_readsOrder_164 rfl 1 rfl ?_
                refine v_get X (pc := 165) (v := .int (m144 0 3)) uw6 0 rfl rfl 6 (by decide) q_674 rfl rfl dX6_readsOrder_165 ?_
                obtain ⟨g168, h⟩ := og h
                refine v_cald X (pc := 168) (v := ((m144 2) (Int32.toNatClampNeg (m144 0 3)))) 2 rfl (ib_in g168) rfl dX6_readsOrder_168 ?_
                obtain ⟨g169, h⟩ := og h
                obtain ⟨m169, em169, h⟩ := lts h
                refine v_put X (pc := 169) (w' := (wM x.g a m169)) uw6 0 rfl rfl 8 (by decide) q_676 rfl tyX6 tyX6_ok nmX6 rfl (nar_c g169) (fit_c g169) (Nat.le_of_ble_eq_true rfl) (by rw [← em169]; rfl) dX6_readsOrder_169 ?_
                refine v_aload_n X (pc := 172) dX6_readsOrder_172 rfl 1 rfl ?_
                refine v_dup X (pc := 173) dX6_readsOrder_173 rfl ?_
                refine v_get X (pc := 174) (v := .int (m169 0 3)) uw6 0 rfl rfl 6 (by decide) q_674 rfl rfl dX6_readsOrder_174 ?_
                refine v_aload_n X (pc := 177) dX6_readsOrder_177 rfl 1 rfl ?_
                refine v_get X (pc := 178) (v := .int (m169 0 4)) uw6 0 rfl rfl 7 (by decide) q_675 rfl rfl dX6_readsOrder_178 ?_
                refine v_ifeq X (pc := 181) (tgt := 188) dX6_readsOrder_181 (by decide) (fun c => ?_) (fun c => ?_)
                · replace h := hp c h
                  refine v_iconst X (pc := 188) (v := 1) dX6_readsOrder_188 (by decide) ?_
                  refine v_iadd X (pc := 189) dX6_readsOrder_189 ?_
                  obtain ⟨m190, em190, h⟩ := lts h
                  refine v_put X (pc := 190) (w' := (wM x.g a m190)) uw6 0 rfl rfl 6 (by decide) q_674 rfl tyX6 tyX6_ok nmX6 rfl rfl rfl (Nat.le_of_ble_eq_true rfl) (by rw [← em190]; rfl) dX6_readsOrder_190 ?_
                  refine v_iload_n X (pc := 193) dX6_readsOrder_193 rfl 0 rfl ?_
                  refine v_ifeq X (pc := 194) (tgt := 201) dX6_readsOrder_194 (by decide) (fun _ => ?_) (fun c => absurd c (by decide))
                  refine v_goto X (pc := 201) (tgt := 209) dX6_readsOrder_201 (by decide) ?_
                  replace h := oi h
                  subst h
                  exact v_vret X (pc := 209) F dX6_readsOrder_209
                · replace h := hn c h
                  refine v_iconst X (pc := 184) (v := 0) dX6_readsOrder_184 (by decide) ?_
                  refine v_goto X (pc := 185) (tgt := 189) dX6_readsOrder_185 (by decide) ?_
                  refine v_iadd X (pc := 189) dX6_readsOrder_189 ?_
                  obtain ⟨m190, em190, h⟩ := lts h
                  refine v_put X (pc := 190) (w' := (wM x.g a m190)) uw6 0 rfl rfl 6 (by decide) q_674 rfl tyX6 tyX6_ok nmX6 rfl rfl rfl (Nat.le_of_ble_eq_true rfl) (by rw [← em190]; rfl) dX6_readsOrder_190 ?_
                  refine v_iload_n X (pc := 193) dX6_readsOrder_193 rfl 0 rfl ?_
                  refine v_ifeq X (pc := 194) (tgt := 201) dX6_readsOrder_194 (by decide) (fun _ => ?_) (fun c => absurd c (by decide))
                  refine v_goto X (pc := 201) (tgt := 209) dX6_readsOrder_201 (by decide) ?_
                  replace h := oi h
                  subst h
                  exact v_vret X (pc := 209) F dX6_readsOrder_209
              · replace h := hn c h
                refine v_bipush X (pc := 155) (v := 32) dX6_readsOrder_155 (by decide) ?_
                refine v_goto X (pc := 157) (tgt := 169) dX6_readsOrder_157 (by decide) ?_
                obtain ⟨m169, em169, h⟩ := lts h
                refine v_put X (pc := 169) (w' := (wM x.g a m169)) uw6 0 rfl rfl 8 (by decide) q_676 rfl tyX6 tyX6_ok nmX6 rfl (by decide) (by decide) (Nat.le_of_ble_eq_true rfl) (by rw [← em169]; rfl) dX6_readsOrder_169 ?_
                refine v_aload_n X (pc := 172) dX6_readsOrder_172 rfl 1 rfl ?_
                refine v_dup X (pc := 173) dX6_readsOrder_173 rfl ?_
                refine v_get X (pc := 174) (v := .int (m169 0 3)) uw6 0 rfl rfl 6 (by decide) q_674 rfl rfl dX6_readsOrder_174 ?_
                refine v_aload_n X (pc := 177) dX6_readsOrder_177 rfl 1 rfl ?_
                refine v_get X (pc := 178) (v := .int (m169 0 4)) uw6 0 rfl rfl 7 (by decide) q_675 rfl rfl dX6_readsOrder_178 ?_
                refine v_ifeq X (pc := 181) (tgt := 188) dX6_readsOrder_181 (by decide) (fun c => ?_) (fun c => ?_)
                · replace h := hp c h
                  refine v_iconst X (pc := 188) (v := 1) dX6_readsOrder_188 (by decide) ?_
                  refine v_iadd X (pc := 189) dX6_readsOrder_189 ?_
                  obtain ⟨m190, em190, h⟩ := lts h
                  refine v_put X (pc := 190) (w' := (wM x.g a m190)) uw6 0 rfl rfl 6 (by decide) q_674 rfl tyX6 tyX6_ok nmX6 rfl rfl rfl (Nat.le_of_ble_eq_true rfl) (by rw [← em190]; rfl) dX6_readsOrder_190 ?_
                  refine v_iload_n X (pc := 193) dX6_readsOrder_193 rfl 0 rfl ?_
                  refine v_ifeq X (pc := 194) (tgt := 201) dX6_readsOrder_194 (by decide) (fun _ => ?_) (fun c => absurd c (by decide))
                  refine v_goto X (pc := 201) (tgt := 209) dX6_readsOrder_201 (by decide) ?_
                  replace h := oi h
                  subst h
                  exact v_vret X (pc := 209) F dX6_readsOrder_209
                · replace h := hn c h
                  refine v_iconst X (pc := 184) (v := 0) dX6_readsOrder_184 (by decide) ?_
                  refine v_goto X (pc := 185) (tgt := 189) dX6_readsOrder_185 (by decide) ?_
                  refine v_iadd X (pc := 189) dX6_readsOrder_189 ?_
                  obtain ⟨m190, em190, h⟩ := lts h
                  refine v_put X (pc := 190) (w' := (wM x.g a m190)) uw6 0 rfl rfl 6 (by decide) q_674 rfl tyX6 tyX6_ok nmX6 rfl rfl rfl (Nat.le_of_ble_eq_true rfl) (by rw [← em190]; rfl) dX6_readsOrder_190 ?_
                  refine v_iload_n X (pc := 193) dX6_readsOrder_193 rfl 0 rfl ?_
                  refine v_ifeq X (pc := 194) (tgt := 201) dX6_readsOrder_194 (by decide) (fun _ => ?_) (fun c => absurd c (by decide))
                  refine v_goto X (pc := 201) (tgt := 209) dX6_readsOrder_201 (by decide) ?_
                  replace h := oi h
                  subst h
                  exact v_vret X (pc := 209) F dX6_readsOrder_209
            · replace h := hn (nbt c) h
              refine v_aload_n X (pc := 128) dX6_readsOrder_128 rfl 1 rfl ?_
              refine v_bipush X (pc := 129) (v := 114) dX6_readsOrder_129 (by decide) ?_
              refine v_bipush X (pc := 131) (v := 114) dX6_readsOrder_131 (by decide) ?_
              obtain ⟨q133, e133, h⟩ := ob h
              refine v_callV X (pc := 133) (st1 := [.int (b2i q133), .ref (a 0)]) (w' := (wM x.g a m74)) [.int 114, .int 114] [.ref (a 0)] (c_X6_isNow x.l x.g a m74 114 114 e133) rfl rfl cw_X6_isNow q_859 q_861 q_41 ⟨by decide, by decide⟩ 0 6 rfl rfl rfl (Fr.all rfl) rfl (Nat.le_of_ble_eq_true rfl) dX6_readsOrder_133 ?_
              refine v_ifneB X (pc := 136) (tgt := 143) dX6_readsOrder_136 (by decide) (fun c => ?_) (fun c => ?_)
              · replace h := hp c h
                refine v_iconst X (pc := 143) (v := 0) dX6_readsOrder_143 (by decide) ?_
                obtain ⟨m144, em144, h⟩ := lts h
                refine v_put X (pc := 144) (w' := (wM x.g a m144)) uw6 0 rfl rfl 7 (by decide) q_675 rfl tyX6 tyX6_ok nmX6 rfl (by decide) (by decide) (Nat.le_of_ble_eq_true rfl) (by rw [← em144]; rfl) dX6_readsOrder_144 ?_
                refine v_aload_n X (pc := 147) dX6_readsOrder_147 rfl 1 rfl ?_
                refine v_aload_n X (pc := 148) dX6_readsOrder_148 rfl 1 rfl ?_
                refine v_get X (pc := 149) (v := .int (m144 0 4)) uw6 0 rfl rfl 7 (by decide) q_675 rfl rfl dX6_readsOrder_149 ?_
                refine v_ifeq X (pc := 152) (tgt := 160) dX6_readsOrder_152 (by decide) (fun c => ?_) (fun c => ?_)
                · replace h := hp c h
                  refine v_aload_n X (pc := 160) dX6_readsOrder_160 rfl 1 rfl ?_
                  refine v_get X (pc := 161) (v := .ref (a 2)) uw6 0 rfl rfl 3 (by decide) q_671 rfl rfl dX6_readsOrder_161 ?_
                  refine v_aload_n X (pc := 164) dX6_readsOrder_164 rfl 1 rfl ?_
                  refine v_get X (pc := 165) (v := .int (m144 0 3)) uw6 0 rfl rfl 6 (by decide) q_674 rfl rfl dX6_readsOrder_165 ?_
                  obtain ⟨g168, h⟩ := og h
                  refine v_cald X (pc := 168) (v := ((m144 2) (Int32.toNatClampNeg (m144 0 3)))) 2 rfl (ib_in g168) rfl dX6_readsOrder_168 ?_
                  obtain ⟨g169, h⟩ := og h
                  obtain ⟨m169, em169, h⟩ := lts h
                  refine v_put X (pc := 169) (w' := (wM x.g a m169)) uw6 0 rfl rfl 8 (by decide) q_676 rfl tyX6 tyX6_ok nmX6 rfl (nar_c g169) (fit_c g169) (Nat.le_of_ble_eq_true rfl) (by rw [← em169]; rfl) dX6_readsOrder_169 ?_
                  refine v_aload_n X (pc := 172) dX6_readsOrder_172 rfl 1 rfl ?_
                  refine v_dup X (pc := 173) dX6_readsOrder_173 rfl ?_
                  refine v_get X (pc := 174) (v := .int (m169 0 3)) uw6 0 rfl rfl 6 (by decide) q_674 rfl rfl dX6_readsOrder_174 ?_
                  refine v_aload_n X (pc := 177) dX6_readsOrder_177 rfl 1 rfl ?_
                  refine v_get X (pc := 178) (v := .int (m169 0 4)) uw6 0 rfl rfl 7 (by decide) q_675 rfl rfl dX6_readsOrder_178 ?_
                  refine v_ifeq X (pc := 181) (tgt := 188) dX6_readsOrder_181 (by decide) (fun c => ?_) (fun c => ?_)
                  · replace h := hp c h
                    refine v_iconst X (pc := 188) (v := 1) dX6_readsOrder_188 (by decide) ?_
                    refine v_iadd X (pc := 189) dX6_readsOrder_189 ?_
                    obtain ⟨m190, em190, h⟩ := lts h
                    refine v_put X (pc := 190) (w' := (wM x.g a m190)) uw6 0 rfl rfl 6 (by decide) q_674 rfl tyX6 tyX6_ok nmX6 rfl rfl rfl (Nat.le_of_ble_eq_true rfl) (by rw [← em190]; rfl) dX6_readsOrder_190 ?_
                    refine v_iload_n X (pc := 193) dX6_readsOrder_193 rfl 0 rfl ?_
                    refine v_ifeq X (pc := 194) (tgt := 201) dX6_readsOrder_194 (by decide) (fun _ => ?_) (fun c => absurd c (by decide))
                    refine v_goto X (pc := 201) (tgt := 209) dX6_readsOrder_201 (by decide) ?_
                    replace h := oi h
                    subst h
                    exact v_vret X (pc := 209) F dX6_readsOrder_209
                  · replace h := hn c h
                    refine v_iconst X (pc := 184) (v := 0) dX6_readsOrder_184 (by decide) ?_
                    refine v_goto X (pc := 185) (tgt := 189) dX6_readsOrder_185 (by decide) ?_
                    refine v_iadd X (pc := 189) dX6_readsOrder_189 ?_
                    obtain ⟨m190, em190, h⟩ := lts h
                    refine v_put X (pc := 190) (w' := (wM x.g a m190)) uw6 0 rfl rfl 6 (by decide) q_674 rfl tyX6 tyX6_ok nmX6 rfl rfl rfl (Nat.le_of_ble_eq_true rfl) (by rw [← em190]; rfl) dX6_readsOrder_190 ?_
                    refine v_iload_n X (pc := 193) dX6_readsOrder_193 rfl 0 rfl ?_
                    refine v_ifeq X (pc := 194) (tgt := 201) dX6_readsOrder_194 (by decide) (fun _ => ?_) (fun c => absurd c (by decide))
                    refine v_goto X (pc := 201) (tgt := 209) dX6_readsOrder_201 (by decide) ?_
                    replace h := oi h
                    subst h
                    exact v_vret X (pc := 209) F dX6_readsOrder_209
                · replace h := hn c h
                  refine v_bipush X (pc := 155) (v := 32) dX6_readsOrder_155 (by decide) ?_
                  refine v_goto X (pc := 157) (tgt := 169) dX6_readsOrder_157 (by decide) ?_
                  obtain ⟨m169, em169, h⟩ := lts h
                  refine v_put X (pc := 169) (w' := (wM x.g a m169)) uw6 0 rfl rfl 8 (by decide) q_676 rfl tyX6 tyX6_ok nmX6 rfl (by decide) (by decide) (Nat.le_of_ble_eq_true rfl) (by rw [← em169]; rfl) dX6_readsOrder_169 ?_
                  refine v_aload_n X (pc := 172) dX6_readsOrder_172 rfl 1 rfl ?_
                  refine v_dup X (pc := 173) dX6_readsOrder_173 rfl ?_
                  refine v_get X (pc := 174) (v := .int (m169 0 3)) uw6 0 rfl rfl 6 (by decide) q_674 rfl rfl dX6_readsOrder_174 ?_
                  refine v_aload_n X (pc := 177) dX6_readsOrder_177 rfl 1 rfl ?_
                  refine v_get X (pc := 178) (v := .int (m169 0 4)) uw6 0 rfl rfl 7 (by decide) q_675 rfl rfl dX6_readsOrder_178 ?_
                  refine v_ifeq X (pc := 181) (tgt := 188) dX6_readsOrder_181 (by decide) (fun c => ?_) (fun c => ?_)
                  · replace h := hp c h
                    refine v_iconst X (pc := 188) (v := 1) dX6_readsOrder_188 (by decide) ?_
                    refine v_iadd X (pc := 189) dX6_readsOrder_189 ?_
                    obtain ⟨m190, em190, h⟩ := lts h
                    refine v_put X (pc := 190) (w' := (wM x.g a m190)) uw6 0 rfl rfl 6 (by decide) q_674 rfl tyX6 tyX6_ok nmX6 rfl rfl rfl (Nat.le_of_ble_eq_true rfl) (by rw [← em190]; rfl) dX6_readsOrder_190 ?_
                    refine v_iload_n X (pc := 193) dX6_readsOrder_193 rfl 0 rfl ?_
                    refine v_ifeq X (pc := 194) (tgt := 201) dX6_readsOrder_194 (by decide) (fun _ => ?_) (fun c => absurd c (by decide))
                    refine v_goto X (pc := 201) (tgt := 209) dX6_readsOrder_201 (by decide) ?_
                    replace h := oi h
                    subst h
                    exact v_vret X (pc := 209) F dX6_readsOrder_209
                  · replace h := hn c h
                    refine v_iconst X (pc := 184) (v := 0) dX6_readsOrder_184 (by decide) ?_
                    refine v_goto X (pc := 185) (tgt := 189) dX6_readsOrder_185 (by decide) ?_
                    refine v_iadd X (pc := 189) dX6_readsOrder_189 ?_
                    obtain ⟨m190, em190, h⟩ := lts h
                    refine v_put X (pc := 190) (w' := (wM x.g a m190)) uw6 0 rfl rfl 6 (by decide) q_674 rfl tyX6 tyX6_ok nmX6 rfl rfl rfl (Nat.le_of_ble_eq_true rfl) (by rw [← em190]; rfl) dX6_readsOrder_190 ?_
                    refine v_iload_n X (pc := 193) dX6_readsOrder_193 rfl 0 rfl ?_
                    refine v_ifeq X (pc := 194) (tgt := 201) dX6_readsOrder_194 (by decide) (fun _ => ?_) (fun c => absurd c (by decide))
                    refine v_goto X (pc := 201) (tgt := 209) dX6_readsOrder_201 (by decide) ?_
                    replace h := oi h
                    subst h
                    exact v_vret X (pc := 209) F dX6_readsOrder_209
              · replace h := hn (nbt c) h
                refine v_iconst X (pc := 139) (v := 1) dX6_readsOrder_139 (by decide) ?_
                refine v_goto X (pc := 140) (tgt := 144) dX6_readsOrder_140 (by decide) ?_
                obtain ⟨m144, em144, h⟩ := lts h
                refine v_put X (pc := 144) (w' := (wM x.g a m144)) uw6 0 rfl rfl 7 (by decide) q_675 rfl tyX6 tyX6_ok nmX6 rfl (by decide) (by decide) (Nat.le_of_ble_eq_true rfl) (by rw [← em144]; rfl) dX6_readsOrder_144 ?_
                refine v_aload_n X (pc := 147) dX6_readsOrder_147 rfl 1 rfl ?_
                refine v_aload_n X (pc := 148) dX6_readsOrder_148 rfl 1 rfl ?_
                refine v_get X (pc := 149) (v := .int (m144 0 4)) uw6 0 rfl rfl 7 (by decide) q_675 rfl rfl dX6_readsOrder_149 ?_
                refine v_ifeq X (pc := 152) (tgt := 160) dX6_readsOrder_152 (by decide) (fun c => ?_) (fun c => ?_)
                · replace h := hp c h
                  refine v_aload_n X (pc := 160) dX6_readsOrder_160 rfl 1 rfl ?_
                  refine v_get X (pc := 161) (v := .ref (a 2)) uw6 0 rfl rfl 3 (by decide) q_671 rfl rfl dX6_readsOrder_161 ?_
                  refine v_aload_n X (pc := 164) dX6_readsOrder_164 rfl 1 rfl ?_
                  refine v_get X (pc := 165) (v := .int (m144 0 3)) uw6 0 rfl rfl 6 (by decide) q_674 rfl rfl dX6_readsOrder_165 ?_
                  obtain ⟨g168, h⟩ := og h
                  refine v_cald X (pc := 168) (v := ((m144 2) (Int32.toNatClampNeg (m144 0 3)))) 2 rfl (ib_in g168) rfl dX6_readsOrder_168 ?_
                  obtain ⟨g169, h⟩ := og h
                  obtain ⟨m169, em169, h⟩ := lts h
                  refine v_put X (pc := 169) (w' := (wM x.g a m169)) uw6 0 rfl rfl 8 (by decide) q_676 rfl tyX6 tyX6_ok nmX6 rfl (nar_c g169) (fit_c g169) (Nat.le_of_ble_eq_true rfl) (by rw [← em169]; rfl) dX6_readsOrder_169 ?_
                  refine v_aload_n X (pc := 172) dX6_readsOrder_172 rfl 1 rfl ?_
                  refine v_dup X (pc := 173) dX6_readsOrder_173 rfl ?_
                  refine v_get X (pc := 174) (v := .int (m169 0 3)) uw6 0 rfl rfl 6 (by decide) q_674 rfl rfl dX6_readsOrder_174 ?_
                  refine v_aload_n X (pc := 177) dX6_readsOrder_177 rfl 1 rfl ?_
                  refine v_get X (pc := 178) (v := .int (m169 0 4)) uw6 0 rfl rfl 7 (by decide) q_675 rfl rfl dX6_readsOrder_178 ?_
                  refine v_ifeq X (pc := 181) (tgt := 188) dX6_readsOrder_181 (by decide) (fun c => ?_) (fun c => ?_)
                  · replace h := hp c h
                    refine v_iconst X (pc := 188) (v := 1) dX6_readsOrder_188 (by decide) ?_
                    refine v_iadd X (pc := 189) dX6_readsOrder_189 ?_
                    obtain ⟨m190, em190, h⟩ := lts h
                    refine v_put X (pc := 190) (w' := (wM x.g a m190)) uw6 0 rfl rfl 6 (by decide) q_674 rfl tyX6 tyX6_ok nmX6 rfl rfl rfl (Nat.le_of_ble_eq_true rfl) (by rw [← em190]; rfl) dX6_readsOrder_190 ?_
                    refine v_iload_n X (pc := 193) dX6_readsOrder_193 rfl 0 rfl ?_
                    refine v_ifeq X (pc := 194) (tgt := 201) dX6_readsOrder_194 (by decide) (fun _ => ?_) (fun c => absurd c (by decide))
                    refine v_goto X (pc := 201) (tgt := 209) dX6_readsOrder_201 (by decide) ?_
                    replace h := oi h
                    subst h
                    exact v_vret X (pc := 209) F dX6_readsOrder_209
                  · replace h := hn c h
                    refine v_iconst X (pc := 184) (v := 0) dX6_readsOrder_184 (by decide) ?_
                    refine v_goto X (pc := 185) (tgt := 189) dX6_readsOrder_185 (by decide) ?_
                    refine v_iadd X (pc := 189) dX6_readsOrder_189 ?_
                    obtain ⟨m190, em190, h⟩ := lts h
                    refine v_put X (pc := 190) (w' := (wM x.g a m190)) uw6 0 rfl rfl 6 (by decide) q_674 rfl tyX6 tyX6_ok nmX6 rfl rfl rfl (Nat.le_of_ble_eq_true rfl) (by rw [← em190]; rfl) dX6_readsOrder_190 ?_
                    refine v_iload_n X (pc := 193) dX6_readsOrder_193 rfl 0 rfl ?_
                    refine v_ifeq X (pc := 194) (tgt := 201) dX6_readsOrder_194 (by decide) (fun _ => ?_) (fun c => absurd c (by decide))
                    refine v_goto X (pc := 201) (tgt := 209) dX6_readsOrder_201 (by decide) ?_
                    replace h := oi h
                    subst h
                    exact v_vret X (pc := 209) F dX6_readsOrder_209
                · replace h := hn c h
                  refine v_bipush X (pc := 155) (v := 32) dX6_readsOrder_155 (by decide) ?_
                  refine v_goto X (pc := 157) (tgt := 169) dX6_readsOrder_157 (by decide) ?_
                  obtain ⟨m169, em169, h⟩ := lts h
                  refine v_put X (pc := 169) (w' := (wM x.g a m169)) uw6 0 rfl rfl 8 (by decide) q_676 rfl tyX6 tyX6_ok nmX6 rfl (by decide) (by decide) (Nat.le_of_ble_eq_true rfl) (by rw [← em169]; rfl) dX6_readsOrder_169 ?_
                  refine v_aload_n X (pc := 172) dX6_readsOrder_172 rfl 1 rfl ?_
                  refine v_dup X (pc := 173) dX6_readsOrder_173 rfl ?_
                  refine v_get X (pc := 174) (v := .int (m169 0 3)) uw6 0 rfl rfl 6 (by decide) q_674 rfl rfl dX6_readsOrder_174 ?_
                  refine v_aload_n X (pc := 177) dX6_readsOrder_177 rfl 1 rfl ?_
                  refine v_get X (pc := 178) (v := .int (m169 0 4)) uw6 0 rfl rfl 7 (by decide) q_675 rfl rfl dX6_readsOrder_178 ?_
                  refine v_ifeq X (pc := 181) (tgt := 188) dX6_readsOrder_181 (by decide) (fun c => ?_) (fun c => ?_)
                  · replace h := hp c h
                    refine v_iconst X (pc := 188) (v := 1) dX6_readsOrder_188 (by decide) ?_
                    refine v_iadd X (pc := 189) dX6_readsOrder_189 ?_
                    obtain ⟨m190, em190, h⟩ := lts h
                    refine v_put X (pc := 190) (w' := (wM x.g a m190)) uw6 0 rfl rfl 6 (by decide) q_674 rfl tyX6 tyX6_ok nmX6 rfl rfl rfl (Nat.le_of_ble_eq_true rfl) (by rw [← em190]; rfl) dX6_readsOrder_190 ?_
                    refine v_iload_n X (pc := 193) dX6_readsOrder_193 rfl 0 rfl ?_
                    refine v_ifeq X (pc := 194) (tgt := 201) dX6_readsOrder_194 (by decide) (fun _ => ?_) (fun c => absurd c (by decide))
                    refine v_goto X (pc := 201) (tgt := 209) dX6_readsOrder_201 (by decide) ?_
                    replace h := oi h
                    subst h
                    exact v_vret X (pc := 209) F dX6_readsOrder_209
                  · replace h := hn c h
                    refine v_iconst X (pc := 184) (v := 0) dX6_readsOrder_184 (by decide) ?_
                    refine v_goto X (pc := 185) (tgt := 189) dX6_readsOrder_185 (by decide) ?_
                    refine v_iadd X (pc := 189) dX6_readsOrder_189 ?_
                    obtain ⟨m190, em190, h⟩ := lts h
                    refine v_put X (pc := 190) (w' := (wM x.g a m190)) uw6 0 rfl rfl 6 (by decide) q_674 rfl tyX6 tyX6_ok nmX6 rfl rfl rfl (Nat.le_of_ble_eq_true rfl) (by rw [← em190]; rfl) dX6_readsOrder_190 ?_
                    refine v_iload_n X (pc := 193) dX6_readsOrder_193 rfl 0 rfl ?_
                    refine v_ifeq X (pc := 194) (tgt := 201) dX6_readsOrder_194 (by decide) (fun _ => ?_) (fun c => absurd c (by decide))
                    refine v_goto X (pc := 201) (tgt := 209) dX6_readsOrder_201 (by decide) ?_
                    replace h := oi h
                    subst h
                    exact v_vret X (pc := 209) F dX6_readsOrder_209
        · replace h := hp c h
          refine v_iconst X (pc := 99) (v := 1) dX6_readsOrder_99 (by decide) ?_
          refine v_goto X (pc := 100) (tgt := 104) dX6_readsOrder_100 (by decide) ?_
          refine v_istore_n X (pc := 104) (L2 := [(1, .int 1), (0, .ref (a 0))]) dX6_readsOrder_104 rfl (by decide) rfl ?_
          refine v_aload_n X (pc := 105) dX6_readsOrder_105 rfl 1 rfl ?_
          refine v_aload_n X (pc := 106) dX6_readsOrder_106 rfl 1 rfl ?_
          refine v_get X (pc := 107) (v := .int (m74 0 4)) uw6 0 rfl rfl 7 (by decide) q_675 rfl rfl dX6_readsOrder_107 ?_
          refine v_ifne X (pc := 110) (tgt := 139) dX6_readsOrder_110 (by decide) (fun c => ?_) (fun c => ?_)
          · replace h := hn c h
            refine v_iconst X (pc := 139) (v := 1) dX6_readsOrder_139 (by decide) ?_
            refine v_goto X (pc := 140) (tgt := 144) dX6_readsOrder_140 (by decide) ?_
            obtain ⟨m144, em144, h⟩ := lts h
            refine v_put X (pc := 144) (w' := (wM x.g a m144)) uw6 0 rfl rfl 7 (by decide) q_675 rfl tyX6 tyX6_ok nmX6 rfl (by decide) (by decide) (Nat.le_of_ble_eq_true rfl) (by rw [← em144]; rfl) dX6_readsOrder_144 ?_
            refine v_aload_n X (pc := 147) dX6_readsOrder_147 rfl 1 rfl ?_
            refine v_aload_n X (pc := 148) dX6_readsOrder_148 rfl 1 rfl ?_
            refine v_get X (pc := 149) (v := .int (m144 0 4)) uw6 0 rfl rfl 7 (by decide) q_675 rfl rfl dX6_readsOrder_149 ?_
            refine v_ifeq X (pc := 152) (tgt := 160) dX6_readsOrder_152 (by decide) (fun c => ?_) (fun c => ?_)
            · replace h := hp c h
              refine v_aload_n X (pc := 160) dX6_readsOrder_160 rfl 1 rfl ?_
              refine v_get X (pc := 161) (v := .ref (a 2)) uw6 0 rfl rfl 3 (by decide) q_671 rfl rfl dX6_readsOrder_161 ?_
              refine v_aload_n X (pc := 164) dX6_readsOrder_164 rfl 1 rfl ?_
              refine v_get X (pc := 165) (v := .int (m144 0 3)) uw6 0 rfl rfl 6 (by decide) q_674 rfl rfl dX6_readsOrder_165 ?_
              obtain ⟨g168, h⟩ := og h
              refine v_cald X (pc := 168) (v := ((m144 2) (Int32.toNatClampNeg (m144 0 3)))) 2 rfl (ib_in g168) rfl dX6_readsOrder_168 ?_
              obtain ⟨g169, h⟩ := og h
              obtain ⟨m169, em169, h⟩ := lts h
              refine v_put X (pc := 169) (w' := (wM x.g a m169)) uw6 0 rfl rfl 8 (by decide) q_676 rfl tyX6 tyX6_ok nmX6 rfl (nar_c g169) (fit_c g169) (Nat.le_of_ble_eq_true rfl) (by rw [← em169]; rfl) dX6_readsOrder_169 ?_
              refine v_aload_n X (pc := 172) dX6_readsOrder_172 rfl 1 rfl ?_
              refine v_dup X (pc := 173) dX6_readsOrder_173 rfl ?_
              refine v_get X (pc := 174) (v := .int (m169 0 3)) uw6 0 rfl rfl 6 (by decide) q_674 rfl rfl dX6_readsOrder_174 ?_
              refine v_aload_n X (pc := 177) dX6_readsOrder_177 rfl 1 rfl ?_
              refine v_get X (pc := 178) (v := .int (m169 0 4)) uw6 0 rfl rfl 7 (by decide) q_675 rfl rfl dX6_readsOrder_178 ?_
              refine v_ifeq X (pc := 181) (tgt := 188) dX6_readsOrder_181 (by decide) (fun c => ?_) (fun c => ?_)
              · replace h := hp c h
                refine v_iconst X (pc := 188) (v := 1) dX6_readsOrder_188 (by decide) ?_
                refine v_iadd X (pc := 189) dX6_readsOrder_189 ?_
                obtain ⟨m190, em190, h⟩ := lts h
                refine v_put X (pc := 190) (w' := (wM x.g a m190)) uw6 0 rfl rfl 6 (by decide) q_674 rfl tyX6 tyX6_ok nmX6 rfl rfl rfl (Nat.le_of_ble_eq_true rfl) (by rw [← em190]; rfl) dX6_readsOrder_190 ?_
                refine v_iload_n X (pc := 193) dX6_readsOrder_193 rfl 0 rfl ?_
                refine v_ifeq X (pc := 194) (tgt := 201) dX6_readsOrder_194 (by decide) (fun c => absurd c (by decide)) (fun _ => ?_)
                refine v_aload_n X (pc := 197) dX6_readsOrder_197 rfl 1 rfl ?_
                obtain ⟨q198, e198, h⟩ := ob h
                refine v_callV X (pc := 198) (st1 := []) (w' := (wM x.g a q198)) [] [] (c_X6_readsNumber x.l x.g a m190 e198) rfl rfl cw_X6_readsNumber q_863 q_865 q_42 ⟨by decide, by decide⟩ 0 6 rfl rfl rfl (Fr.all rfl) rfl (Nat.le_of_ble_eq_true rfl) dX6_readsOrder_198 ?_
                refine v_goto X (pc := 201) (tgt := 209) dX6_readsOrder_201 (by decide) ?_
                replace h := oi h
                subst h
                exact v_vret X (pc := 209) F dX6_readsOrder_209
              · replace h := hn c h
                refine v_iconst X (pc := 184) (v := 0) dX6_readsOrder_184 (by decide) ?_
                refine v_goto X (pc := 185) (tgt := 189) dX6_readsOrder_185 (by decide) ?_
                refine v_iadd X (pc := 189) dX6_readsOrder_189 ?_
                obtain ⟨m190, em190, h⟩ := lts h
                refine v_put X (pc := 190) (w' := (wM x.g a m190)) uw6 0 rfl rfl 6 (by decide) q_674 rfl tyX6 tyX6_ok nmX6 rfl rfl rfl (Nat.le_of_ble_eq_true rfl) (by rw [← em190]; rfl) dX6_readsOrder_190 ?_
                refine v_iload_n X (pc := 193) dX6_readsOrder_193 rfl 0 rfl ?_
                refine v_ifeq X (pc := 194) (tgt := 201) dX6_readsOrder_194 (by decide) (fun c => absurd c (by decide)) (fun _ => ?_)
                refine v_aload_n X (pc := 197) dX6_readsOrder_197 rfl 1 rfl ?_
                obtain ⟨q198, e198, h⟩ := ob h
                refine v_callV X (pc := 198) (st1 := []) (w' := (wM x.g a q198)) [] [] (c_X6_readsNumber x.l x.g a m190 e198) rfl rfl cw_X6_readsNumber q_863 q_865 q_42 ⟨by decide, by decide⟩ 0 6 rfl rfl rfl (Fr.all rfl) rfl (Nat.le_of_ble_eq_true rfl) dX6_readsOrder_198 ?_
                refine v_goto X (pc := 201) (tgt := 209) dX6_readsOrder_201 (by decide) ?_
                replace h := oi h
                subst h
                exact v_vret X (pc := 209) F dX6_readsOrder_209
            · replace h := hn c h
              refine v_bipush X (pc := 155) (v := 32) dX6_readsOrder_155 (by decide) ?_
              refine v_goto X (pc := 157) (tgt := 169) dX6_readsOrder_157 (by decide) ?_
              obtain ⟨m169, em169, h⟩ := lts h
              refine v_put X (pc := 169) (w' := (wM x.g a m169)) uw6 0 rfl rfl 8 (by decide) q_676 rfl tyX6 tyX6_ok nmX6 rfl (by decide) (by decide) (Nat.le_of_ble_eq_true rfl) (by rw [← em169]; rfl) dX6_readsOrder_169 ?_
              refine v_aload_n X (pc := 172) dX6_readsOrder_172 rfl 1 rfl ?_
              refine v_dup X (pc := 173) dX6_readsOrder_173 rfl ?_
              refine v_get X (pc := 174) (v := .int (m169 0 3)) uw6 0 rfl rfl 6 (by decide) q_674 rfl rfl dX6_readsOrder_174 ?_
              refine v_aload_n X (pc := 177) dX6_readsOrder_177 rfl 1 rfl ?_
              refine v_get X (pc := 178) (v := .int (m169 0 4)) uw6 0 rfl rfl 7 (by decide) q_675 rfl rfl dX6_readsOrder_178 ?_
              refine v_ifeq X (pc := 181) (tgt := 188) dX6_readsOrder_181 (by decide) (fun c => ?_) (fun c => ?_)
              · replace h := hp c h
                refine v_iconst X (pc := 188) (v := 1) dX6_readsOrder_188 (by decide) ?_
                refine v_iadd X (pc := 189) dX6_readsOrder_189 ?_
                obtain ⟨m190, em190, h⟩ := lts h
                refine v_put X (pc := 190) (w' := (wM x.g a m190)) uw6 0 rfl rfl 6 (by decide) q_674 rfl tyX6 tyX6_ok nmX6 rfl rfl rfl (Nat.le_of_ble_eq_true rfl) (by rw [← em190]; rfl) dX6_readsOrder_190 ?_
                refine v_iload_n X (pc := 193) dX6_readsOrder_193 rfl 0 rfl ?_
                refine v_ifeq X (pc := 194) (tgt := 201) dX6_readsOrder_194 (by decide) (fun c => absurd c (by decide)) (fun _ => ?_)
                refine v_aload_n X (pc := 197) dX6_readsOrder_197 rfl 1 rfl ?_
                obtain ⟨q198, e198, h⟩ := ob h
                refine v_callV X (pc := 198) (st1 := []) (w' := (wM x.g a q198)) [] [] (c_X6_readsNumber x.l x.g a m190 e198) rfl rfl cw_X6_readsNumber q_863 q_865 q_42 ⟨by decide, by decide⟩ 0 6 rfl rfl rfl (Fr.all rfl) rfl (Nat.le_of_ble_eq_true rfl) dX6_readsOrder_198 ?_
                refine v_goto X (pc := 201) (tgt := 209) dX6_readsOrder_201 (by decide) ?_
                replace h := oi h
                subst h
                exact v_vret X (pc := 209) F dX6_readsOrder_209
              · replace h := hn c h
                refine v_iconst X (pc := 184) (v := 0) dX6_readsOrder_184 (by decide) ?_
                refine v_goto X (pc := 185) (tgt := 189) dX6_readsOrder_185 (by decide) ?_
                refine v_iadd X (pc := 189) dX6_readsOrder_189 ?_
                obtain ⟨m190, em190, h⟩ := lts h
                refine v_put X (pc := 190) (w' := (wM x.g a m190)) uw6 0 rfl rfl 6 (by decide) q_674 rfl tyX6 tyX6_ok nmX6 rfl rfl rfl (Nat.le_of_ble_eq_true rfl) (by rw [← em190]; rfl) dX6_readsOrder_190 ?_
                refine v_iload_n X (pc := 193) dX6_readsOrder_193 rfl 0 rfl ?_
                refine v_ifeq X (pc := 194) (tgt := 201) dX6_readsOrder_194 (by decide) (fun c => absurd c (by decide)) (fun _ => ?_)
                refine v_aload_n X (pc := 197) dX6_readsOrder_197 rfl 1 rfl ?_
                obtain ⟨q198, e198, h⟩ := ob h
                refine v_callV X (pc := 198) (st1 := []) (w' := (wM x.g a q198)) [] [] (c_X6_readsNumber x.l x.g a m190 e198) rfl rfl cw_X6_readsNumber q_863 q_865 q_42 ⟨by decide, by decide⟩ 0 6 rfl rfl rfl (Fr.all rfl) rfl (Nat.le_of_ble_eq_true rfl) dX6_readsOrder_198 ?_
                refine v_goto X (pc := 201) (tgt := 209) dX6_readsOrder_201 (by decide) ?_
                replace h := oi h
                subst h
                exact v_vret X (pc := 209) F dX6_readsOrder_209
          · replace h := hp c h
            refine v_iload_n X (pc := 113) dX6_readsOrder_113 rfl 0 rfl ?_
            refine v_ifne X (pc := 114) (tgt := 143) dX6_readsOrder_114 (by decide) (fun _ => ?_) (fun c => absurd c (by decide))
            refine v_iconst X (pc := 143) (v := 0) dX6_readsOrder_143 (by decide) ?_
            obtain ⟨m144, em144, h⟩ := lts h
            refine v_put X (pc := 144) (w' := (wM x.g a m144)) uw6 0 rfl rfl 7 (by decide) q_675 rfl tyX6 tyX6_ok nmX6 rfl (by decide) (by decide) (Nat.le_of_ble_eq_true rfl) (by rw [← em144]; rfl) dX6_readsOrder_144 ?_
            refine v_aload_n X (pc := 147) dX6_readsOrder_147 rfl 1 rfl ?_
            refine v_aload_n X (pc := 148) dX6_readsOrder_148 rfl 1 rfl ?_
            refine v_get X (pc := 149) (v := .int (m144 0 4)) uw6 0 rfl rfl 7 (by decide) q_675 rfl rfl dX6_readsOrder_149 ?_
            refine v_ifeq X (pc := 152) (tgt := 160) dX6_readsOrder_152 (by decide) (fun c => ?_) (fun c => ?_)
            · replace h := hp c h
              refine v_aload_n X (pc := 160) dX6_readsOrder_160 rfl 1 rfl ?_
              refine v_get X (pc := 161) (v := .ref (a 2)) uw6 0 rfl rfl 3 (by decide) q_671 rfl rfl dX6_readsOrder_161 ?_
              refine v_aload_n X (pc := 164) dX6_readsOrder_164 rfl 1 rfl ?_
              refine v_get X (pc := 165) (v := .int (m144 0 3)) uw6 0 rfl rfl 6 (by decide) q_674 rfl rfl dX6_readsOrder_165 ?_
              obtain ⟨g168, h⟩ := og h
              refine v_cald X (pc := 168) (v := ((m144 2) (Int32.toNatClampNeg (m144 0 3)))) 2 rfl (ib_in g168) rfl dX6_readsOrder_168 ?_
              obtain ⟨g169, h⟩ := og h
              obtain ⟨m169, em169, h⟩ := lts h
              refine v_put X (pc := 169) (w' := (wM x.g a m169)) uw6 0 rfl rfl 8 (by decide) q_676 rfl tyX6 tyX6_ok nmX6 rfl (nar_c g169) (fit_c g169) (Nat.le_of_ble_eq_true rfl) (by rw [← em169]; rfl) dX6_readsOrder_169 ?_
              refine v_aload_n X (pc := 172) dX6_readsOrder_172 rfl 1 rfl ?_
              refine v_dup X (pc := 173) dX6_readsOrder_173 rfl ?_
              refine v_get X (pc := 174) (v := .int (m169 0 3)) uw6 0 rfl rfl 6 (by decide) q_674 rfl rfl dX6_readsOrder_174 ?_
              refine v_aload_n X (pc := 177) dX6_readsOrder_177 rfl 1 rfl ?_
              refine v_get X (pc := 178) (v := .int (m169 0 4)) uw6 0 rfl rfl 7 (by decide) q_675 rfl rfl dX6_readsOrder_178 ?_
              refine v_ifeq X (pc := 181) (tgt := 188) dX6_readsOrder_181 (by decide) (fun c => ?_) (fun c => ?_)
              · replace h := hp c h
                refine v_iconst X (pc := 188) (v := 1) dX6_readsOrder_188 (by decide) ?_
                refine v_iadd X (pc := 189) dX6_readsOrder_189 ?_
                obtain ⟨m190, em190, h⟩ := lts h
                refine v_put X (pc := 190) (w' := (wM x.g a m190)) uw6 0 rfl rfl 6 (by decide) q_674 rfl tyX6 tyX6_ok nmX6 rfl rfl rfl (Nat.le_of_ble_eq_true rfl) (by rw [← em190]; rfl) dX6_readsOrder_190 ?_
                refine v_iload_n X (pc := 193) dX6_readsOrder_193 rfl 0 rfl ?_
                refine v_ifeq X (pc := 194) (tgt := 201) dX6_readsOrder_194 (by decide) (fun c => absurd c (by decide)) (fun _ => ?_)
                refine v_aload_n X (pc := 197) dX6_readsOrder_197 rfl 1 rfl ?_
                obtain ⟨q198, e198, h⟩ := ob h
                refine v_callV X (pc := 198) (st1 := []) (w' := (wM x.g a q198)) [] [] (c_X6_readsNumber x.l x.g a m190 e198) rfl rfl cw_X6_readsNumber q_863 q_865 q_42 ⟨by decide, by decide⟩ 0 6 rfl rfl rfl (Fr.all rfl) rfl (Nat.le_of_ble_eq_true rfl) dX6_readsOrder_198 ?_
                refine v_goto X (pc := 201) (tgt := 209) dX6_readsOrder_201 (by decide) ?_
                replace h := oi h
                subst h
                exact v_vret X (pc := 209) F dX6_readsOrder_209
              · replace h := hn c h
                refine v_iconst X (pc := 184) (v := 0) dX6_readsOrder_184 (by decide) ?_
                refine v_goto X (pc := 185) (tgt := 189) dX6_readsOrder_185 (by decide) ?_
                refine v_iadd X (pc := 189) dX6_readsOrder_189 ?_
                obtain ⟨m190, em190, h⟩ := lts h
                refine v_put X (pc := 190) (w' := (wM x.g a m190)) uw6 0 rfl rfl 6 (by decide) q_674 rfl tyX6 tyX6_ok nmX6 rfl rfl rfl (Nat.le_of_ble_eq_true rfl) (by rw [← em190]; rfl) dX6_readsOrder_190 ?_
                refine v_iload_n X (pc := 193) dX6_readsOrder_193 rfl 0 rfl ?_
                refine v_ifeq X (pc := 194) (tgt := 201) dX6_readsOrder_194 (by decide) (fun c => absurd c (by decide)) (fun _ => ?_)
                refine v_aload_n X (pc := 197) dX6_readsOrder_197 rfl 1 rfl ?_
                obtain ⟨q198, e198, h⟩ := ob h
                refine v_callV X (pc := 198) (st1 := []) (w' := (wM x.g a q198)) [] [] (c_X6_readsNumber x.l x.g a m190 e198) rfl rfl cw_X6_readsNumber q_863 q_865 q_42 ⟨by decide, by decide⟩ 0 6 rfl rfl rfl (Fr.all rfl) rfl (Nat.le_of_ble_eq_true rfl) dX6_readsOrder_198 ?_
                refine v_goto X (pc := 201) (tgt := 209) dX6_readsOrder_201 (by decide) ?_
                replace h := oi h
                subst h
                exact v_vret X (pc := 209) F dX6_readsOrder_209
            · replace h := hn c h
              refine v_bipush X (pc := 155) (v := 32) dX6_readsOrder_155 (by decide) ?_
              refine v_goto X (pc := 157) (tgt := 169) dX6_readsOrder_157 (by decide) ?_
              obtain ⟨m169, em169, h⟩ := lts h
              refine v_put X (pc := 169) (w' := (wM x.g a m169)) uw6 0 rfl rfl 8 (by decide) q_676 rfl tyX6 tyX6_ok nmX6 rfl (by decide) (by decide) (Nat.le_of_ble_eq_true rfl) (by rw [← em169]; rfl) dX6_readsOrder_169 ?_
              refine v_aload_n X (pc := 172) dX6_readsOrder_172 rfl 1 rfl ?_
              refine v_dup X (pc := 173) dX6_readsOrder_173 rfl ?_
              refine v_get X (pc := 174) (v := .int (m169 0 3)) uw6 0 rfl rfl 6 (by decide) q_674 rfl rfl dX6_readsOrder_174 ?_
              refine v_aload_n X (pc := 177) dX6_readsOrder_177 rfl 1 rfl ?_
              refine v_get X (pc := 178) (v := .int (m169 0 4)) uw6 0 rfl rfl 7 (by decide) q_675 rfl rfl dX6_readsOrder_178 ?_
              refine v_ifeq X (pc := 181) (tgt := 188) dX6_readsOrder_181 (by decide) (fun c => ?_) (fun c => ?_)
              · replace h := hp c h
                refine v_iconst X (pc := 188) (v := 1) dX6_readsOrder_188 (by decide) ?_
                refine v_iadd X (pc := 189) dX6_readsOrder_189 ?_
                obtain ⟨m190, em190, h⟩ := lts h
                refine v_put X (pc := 190) (w' := (wM x.g a m190)) uw6 0 rfl rfl 6 (by decide) q_674 rfl tyX6 tyX6_ok nmX6 rfl rfl rfl (Nat.le_of_ble_eq_true rfl) (by rw [← em190]; rfl) dX6_readsOrder_190 ?_
                refine v_iload_n X (pc := 193) dX6_readsOrder_193 rfl 0 rfl ?_
                refine v_ifeq X (pc := 194) (tgt := 201) dX6_readsOrder_194 (by decide) (fun c => absurd c (by decide)) (fun _ => ?_)
                refine v_aload_n X (pc := 197) dX6_readsOrder_197 rfl 1 rfl ?_
                obtain ⟨q198, e198, h⟩ := ob h
                refine v_callV X (pc := 198) (st1 := []) (w' := (wM x.g a q198)) [] [] (c_X6_readsNumber x.l x.g a m190 e198) rfl rfl cw_X6_readsNumber q_863 q_865 q_42 ⟨by decide, by decide⟩ 0 6 rfl rfl rfl (Fr.all rfl) rfl (Nat.le_of_ble_eq_true rfl) dX6_readsOrder_198 ?_
                refine v_goto X (pc := 201) (tgt := 209) dX6_readsOrder_201 (by decide) ?_
                replace h := oi h
                subst h
                exact v_vret X (pc := 209) F dX6_readsOrder_209
              · replace h := hn c h
                refine v_iconst X (pc := 184) (v := 0) dX6_readsOrder_184 (by decide) ?_
                refine v_goto X (pc := 185) (tgt := 189) dX6_readsOrder_185 (by decide) ?_
                refine v_iadd X (pc := 189) dX6_readsOrder_189 ?_
                obtain ⟨m190, em190, h⟩ := lts h
                refine v_put X (pc := 190) (w' := (wM x.g a m190)) uw6 0 rfl rfl 6 (by decide) q_674 rfl tyX6 tyX6_ok nmX6 rfl rfl rfl (Nat.le_of_ble_eq_true rfl) (by rw [← em190]; rfl) dX6_readsOrder_190 ?_
                refine v_iload_n X (pc := 193) dX6_readsOrder_193 rfl 0 rfl ?_
                refine v_ifeq X (pc := 194) (tgt := 201) dX6_readsOrder_194 (by decide) (fun c => absurd c (by decide)) (fun _ => ?_)
                refine v_aload_n X (pc := 197) dX6_readsOrder_197 rfl 1 rfl ?_
                obtain ⟨q198, e198, h⟩ := ob h
                refine v_callV X (pc := 198) (st1 := []) (w' := (wM x.g a q198)) [] [] (c_X6_readsNumber x.l x.g a m190 e198) rfl rfl cw_X6_readsNumber q_863 q_865 q_42 ⟨by decide, by decide⟩ 0 6 rfl rfl rfl (Fr.all rfl) rfl (Nat.le_of_ble_eq_true rfl) dX6_readsOrder_198 ?_
                refine v_goto X (pc := 201) (tgt := 209) dX6_readsOrder_201 (by decide) ?_
                replace h := oi h
                subst h
                exact v_vret X (pc := 209) F dX6_readsOrder_209
  · replace h := hp c h
    refine v_aload_n X (pc := 17) dX6_readsOrder_17 rfl 0 rfl ?_
    refine v_bipush X (pc := 18) (v := 104) dX6_readsOrder_18 (by decide) ?_
    obtain ⟨m20, em20, h⟩ := lts h
    refine v_put X (pc := 20) (w' := (wM x.g a m20)) uw6 0 rfl rfl 8 (by decide) q_676 rfl tyX6 tyX6_ok nmX6 rfl (by decide) (by decide) (Nat.le_of_ble_eq_true rfl) (by rw [← em20]; rfl) dX6_readsOrder_20 ?_
    refine v_aload_n X (pc := 23) dX6_readsOrder_23 rfl 0 rfl ?_
    refine v_dup X (pc := 24) dX6_readsOrder_24 rfl ?_
    refine v_get X (pc := 25) (v := .int (m20 0 3)) uw6 0 rfl rfl 6 (by decide) q_674 rfl rfl dX6_readsOrder_25 ?_
    refine v_iconst X (pc := 28) (v := 1) dX6_readsOrder_28 (by decide) ?_
    refine v_iadd X (pc := 29) dX6_readsOrder_29 ?_
    obtain ⟨m30, em30, h⟩ := lts h
    refine v_put X (pc := 30) (w' := (wM x.g a m30)) uw6 0 rfl rfl 6 (by decide) q_674 rfl tyX6 tyX6_ok nmX6 rfl rfl rfl (Nat.le_of_ble_eq_true rfl) (by rw [← em30]; rfl) dX6_readsOrder_30 ?_
    refine v_aload_n X (pc := 33) dX6_readsOrder_33 rfl 0 rfl ?_
    obtain ⟨q34, e34, h⟩ := ob h
    refine v_callV X (pc := 34) (st1 := []) (w' := (wM x.g a q34)) [] [] (c_X6_readsNumber x.l x.g a m30 e34) rfl rfl cw_X6_readsNumber q_863 q_865 q_42 ⟨by decide, by decide⟩ 0 6 rfl rfl rfl (Fr.all rfl) rfl (Nat.le_of_ble_eq_true rfl) dX6_readsOrder_34 ?_
    refine v_goto X (pc := 37) (tgt := 209) dX6_readsOrder_37 (by decide) ?_
    replace h := oi h
    subst h
    exact v_vret X (pc := 209) F dX6_readsOrder_209
theorem cw_X6_readsOrder : CwB yX6_readsOrder cX6_readsOrder 2 (Option.none : Option FieldType) 0 := ⟨q_858, q_57, by decide, by decide, by decide +kernel⟩
def f_X6_faultOf_L12  : Nat → Blk → Int32 → Option (Int32 × Blk)
  | 0, _, _ => none
  | n + 1, μ, x1 =>
    (if x1 = 0 then (if (μ 0 4) = 0 then (if (μ 0 2) ≤ (μ 0 3) then some ((-100005), μ) else some ((μ 0 3), μ)) else some ((μ 0 3), μ)) else (f_X6_readsOrder μ).bind fun q17 => (f_X6_isNow q17 44 44).bind fun q25 => (if q25 = true then lt (up q17 0 3 ((q17 0 3) + 1)) fun m44 => f_X6_faultOf_L12  n m44 (b2i q25) else lt (up q17 0 3 ((q17 0 3) + 0)) fun m44 => f_X6_faultOf_L12  n m44 (b2i q25)))
set_option maxHeartbeats 4000000 in
set_option maxRecDepth 100000 in
theorem v_X6_faultOf_L12 {x : Ctx} (X : Cx x RX6 cX6_faultOf 2 4 85) (a : Nat → Nat)  : ∀ (n : Nat) (μ : Blk) (x1 : Int32) {res : Int32 × Blk}, f_X6_faultOf_L12  n μ x1 = some res → Fn x (Option.some FieldType.int) (some (.int res.1)) (wM x.g a res.2) → V x (wM x.g a μ) [(0, .ref (a 0)), (1, .int x1)] [] 12 := by
  intro n
  induction n with
  | zero =>
    intro μ x1 res h F
    rw [f_X6_faultOf_L12] at h
    cases h
  | succ n ih =>
    intro μ x1 res h F
    rw [f_X6_faultOf_L12] at h
    refine v_iload_n X (pc := 12) dX6_faultOf_12 rfl 1 rfl ?_
    refine v_ifeq X (pc := 13) (tgt := 50) dX6_faultOf_13 (by decide) (fun c => ?_) (fun c => ?_)
    · replace h := hp c h
      refine v_aload_n X (pc := 50) dX6_faultOf_50 rfl 0 rfl ?_
      refine v_get X (pc := 51) (v := .int (μ 0 4)) uw6 0 rfl rfl 7 (by decide) q_675 rfl rfl dX6_faultOf_51 ?_
      refine v_ifne X (pc := 54) (tgt := 68) dX6_faultOf_54 (by decide) (fun c => ?_) (fun c => ?_)
      · replace h := hn c h
        refine v_aload_n X (pc := 68) dX6_faultOf_68 rfl 0 rfl ?_
        refine v_get X (pc := 69) (v := .int (μ 0 3)) uw6 0 rfl rfl 6 (by decide) q_674 rfl rfl dX6_faultOf_69 ?_
        refine v_goto X (pc := 72) (tgt := 77) dX6_faultOf_72 (by decide) ?_
        replace h := oi h
        subst h
        exact v_iret X (pc := 77) F dX6_faultOf_77
      · replace h := hp c h
        refine v_aload_n X (pc := 57) dX6_faultOf_57 rfl 0 rfl ?_
        refine v_get X (pc := 58) (v := .int (μ 0 3)) uw6 0 rfl rfl 6 (by decide) q_674 rfl rfl dX6_faultOf_58 ?_
        refine v_aload_n X (pc := 61) dX6_faultOf_61 rfl 0 rfl ?_
        refine v_get X (pc := 62) (v := .int (μ 0 2)) uw6 0 rfl rfl 4 (by decide) q_672 rfl rfl dX6_faultOf_62 ?_
        refine v_icmpge X (pc := 65) (tgt := 75) dX6_faultOf_65 (by decide) (fun c => ?_) (fun c => ?_)
        · replace h := hp c h
          refine v_ldc X (pc := 75) (v := (-100005)) q_826 dX6_faultOf_75 ?_
          replace h := oi h
          subst h
          exact v_iret X (pc := 77) F dX6_faultOf_77
        · replace h := hn c h
          refine v_aload_n X (pc := 68) dX6_faultOf_68 rfl 0 rfl ?_
          refine v_get X (pc := 69) (v := .int (μ 0 3)) uw6 0 rfl rfl 6 (by decide) q_674 rfl rfl dX6_faultOf_69 ?_
          refine v_goto X (pc := 72) (tgt := 77) dX6_faultOf_72 (by decide) ?_
          replace h := oi h
          subst h
          exact v_iret X (pc := 77) F dX6_faultOf_77
    · replace h := hn c h
      refine v_aload_n X (pc := 16) dX6_faultOf_16 rfl 0 rfl ?_
      obtain ⟨q17, e17, h⟩ := ob h
      refine v_callV X (pc := 17) (st1 := []) (w' := (wM x.g a q17)) [] [] (c_X6_readsOrder x.l x.g a μ e17) rfl rfl cw_X6_readsOrder q_855 q_857 q_40 ⟨by decide, by decide⟩ 0 6 rfl rfl rfl (Fr.all rfl) rfl (Nat.le_of_ble_eq_true rfl) dX6_faultOf_17 ?_
      refine v_aload_n X (pc := 20) dX6_faultOf_20 rfl 0 rfl ?_
      refine v_bipush X (pc := 21) (v := 44) dX6_faultOf_21 (by decide) ?_
      refine v_bipush X (pc := 23) (v := 44) dX6_faultOf_23 (by decide) ?_
      obtain ⟨q25, e25, h⟩ := ob h
      refine v_callV X (pc := 25) (st1 := [.int (b2i q25)]) (w' := (wM x.g a q17)) [.int 44, .int 44] [] (c_X6_isNow x.l x.g a q17 44 44 e25) rfl rfl cw_X6_isNow q_859 q_861 q_41 ⟨by decide, by decide⟩ 0 6 rfl rfl rfl (Fr.all rfl) rfl (Nat.le_of_ble_eq_true rfl) dX6_faultOf_25 ?_
      refine v_istore_n X (pc := 28) (L2 := [(1, .int (b2i q25)), (0, .ref (a 0))]) dX6_faultOf_28 rfl (by decide) rfl ?_
      refine v_aload_n X (pc := 29) dX6_faultOf_29 rfl 1 rfl ?_
      refine v_dup X (pc := 30) dX6_faultOf_30 rfl ?_
      refine v_get X (pc := 31) (v := .int (q17 0 3)) uw6 0 rfl rfl 6 (by decide) q_674 rfl rfl dX6_faultOf_31 ?_
      refine v_iload_n X (pc := 34) dX6_faultOf_34 rfl 0 rfl ?_
      refine v_ifeqB X (pc := 35) (tgt := 42) dX6_faultOf_35 (by decide) (fun c => ?_) (fun c => ?_)
      · replace h := hn (nbt c) h
        refine v_iconst X (pc := 42) (v := 0) dX6_faultOf_42 (by decide) ?_
        refine v_iadd X (pc := 43) dX6_faultOf_43 ?_
        obtain ⟨m44, em44, h⟩ := lts h
        refine v_put X (pc := 44) (w' := (wM x.g a m44)) uw6 0 rfl rfl 6 (by decide) q_674 rfl tyX6 tyX6_ok nmX6 rfl rfl rfl (Nat.le_of_ble_eq_true rfl) (by rw [← em44]; rfl) dX6_faultOf_44 ?_
        refine v_goto X (pc := 47) (tgt := 12) dX6_faultOf_47 (by decide) ?_
        refine v_sub (L2 := [(0, .ref (a 0)), (1, .int (b2i q25))]) [1, 0] rfl ?_
        exact ih m44 (b2i q25) h F
      · replace h := hp c h
        refine v_iconst X (pc := 38) (v := 1) dX6_faultOf_38 (by decide) ?_
        refine v_goto X (pc := 39) (tgt := 43) dX6_faultOf_39 (by decide) ?_
        refine v_iadd X (pc := 43) dX6_faultOf_43 ?_
        obtain ⟨m44, em44, h⟩ := lts h
        refine v_put X (pc := 44) (w' := (wM x.g a m44)) uw6 0 rfl rfl 6 (by decide) q_674 rfl tyX6 tyX6_ok nmX6 rfl rfl rfl (Nat.le_of_ble_eq_true rfl) (by rw [← em44]; rfl) dX6_faultOf_44 ?_
        refine v_goto X (pc := 47) (tgt := 12) dX6_faultOf_47 (by decide) ?_
        refine v_sub (L2 := [(0, .ref (a 0)), (1, .int (b2i q25))]) [1, 0] rfl ?_
        exact ih m44 (b2i q25) h F
def f_X6_faultOf (μ : Blk) : Option (Int32 × Blk) :=
  lt (up μ 0 3 0) fun m2 => lt (up m2 0 4 0) fun m7 => f_X6_faultOf_L12  FU m7 1
set_option maxHeartbeats 4000000 in
set_option maxRecDepth 100000 in
theorem c_X6_faultOf (l : Launch) (g : Gl) (a : Nat → Nat) (μ : Blk) {res : Int32 × Blk} (h : f_X6_faultOf μ = some res) : Ok l g yX6_faultOf cX6_faultOf 2 (Option.some FieldType.int) 4 85 [.ref (a 0)] (wM g a μ) (some (.int res.1)) (wM g a res.2) := by
  refine Ok.of RX6 (by decide) rfl (Nat.le_of_ble_eq_true rfl) (fun x hl hg X F => ?_)
  subst hg; subst hl
  rw [f_X6_faultOf] at h
  show V x (wM x.g a μ) [(0, .ref (a 0))] [] 0
  refine v_aload_n X (pc := 0) dX6_faultOf_0 rfl 0 rfl ?_
  refine v_iconst X (pc := 1) (v := 0) dX6_faultOf_1 (by decide) ?_
  obtain ⟨m2, em2, h⟩ := lts h
  refine v_put X (pc := 2) (w' := (wM x.g a m2)) uw6 0 rfl rfl 6 (by decide) q_674 rfl tyX6 tyX6_ok nmX6 rfl rfl rfl (Nat.le_of_ble_eq_true rfl) (by rw [← em2]; rfl) dX6_faultOf_2 ?_
  refine v_aload_n X (pc := 5) dX6_faultOf_5 rfl 0 rfl ?_
  refine v_iconst X (pc := 6) (v := 0) dX6_faultOf_6 (by decide) ?_
  obtain ⟨m7, em7, h⟩ := lts h
  refine v_put X (pc := 7) (w' := (wM x.g a m7)) uw6 0 rfl rfl 7 (by decide) q_675 rfl tyX6 tyX6_ok nmX6 rfl (by decide) (by decide) (Nat.le_of_ble_eq_true rfl) (by rw [← em7]; rfl) dX6_faultOf_7 ?_
  refine v_iconst X (pc := 10) (v := 1) dX6_faultOf_10 (by decide) ?_
  refine v_istore_n X (pc := 11) (L2 := [(1, .int 1), (0, .ref (a 0))]) dX6_faultOf_11 rfl (by decide) rfl ?_
  refine v_sub (L2 := [(0, .ref (a 0)), (1, .int 1)]) [1, 0] rfl ?_
  exact v_X6_faultOf_L12 X a  FU m7 1 h F
theorem cw_X6_faultOf : CwB yX6_faultOf cX6_faultOf 2 (Option.some FieldType.int) 0 := ⟨q_854, q_57, by decide, by decide, by decide +kernel⟩
def f_X6_fault (μ : Blk) : Option (Int32 × Blk) :=
  (f_X6_faultOf μ).bind fun q1 => some (q1.1, q1.2)
set_option maxHeartbeats 4000000 in
set_option maxRecDepth 100000 in
theorem c_X6_fault (l : Launch) (g : Gl) (a : Nat → Nat) (μ : Blk) {res : Int32 × Blk} (h : f_X6_fault μ = some res) : Ok l g yX6_fault cX6_fault 1 (Option.some FieldType.int) 5 106 [.ref (a 0)] (wM g a μ) (some (.int res.1)) (wM g a res.2) := by
  refine Ok.of RX6 (by decide) rfl (Nat.le_of_ble_eq_true rfl) (fun x hl hg X F => ?_)
  subst hg; subst hl
  rw [f_X6_fault] at h
  show V x (wM x.g a μ) [(0, .ref (a 0))] [] 0
  refine v_aload_n X (pc := 0) dX6_fault_0 rfl 0 rfl ?_
  obtain ⟨q1, e1, h⟩ := ob h
  refine v_callV X (pc := 1) (st1 := [.int q1.1]) (w' := (wM x.g a q1.2)) [] [] (c_X6_faultOf x.l x.g a μ e1) rfl rfl cw_X6_faultOf q_851 q_853 q_39 ⟨by decide, by decide⟩ 0 6 rfl rfl rfl (Fr.all rfl) rfl (Nat.le_of_ble_eq_true rfl) dX6_fault_1 ?_
  replace h := oi h
  subst h
  exact v_iret X (pc := 4) F dX6_fault_4
theorem cw_X6_fault : CwB yX6_fault cX6_fault 1 (Option.some FieldType.int) 0 := ⟨q_850, q_57, by decide, by decide, by decide +kernel⟩
def f_X6_does (μ : Blk) : Option (Bool × Blk) :=
  (if (μ 0 5) = 104 then (f_X6_hoursPass μ (μ 0 7)).bind fun q14 => some (true, q14.2) else lt (f_X6_isStile μ (μ 0 6)) fun q25 => (if q25 = true then (if (μ 0 5) = 97 then (f_X6_audits μ (μ 0 6)).bind fun q47 => some (true, q47) else (if (μ 0 5) = 114 then lt (f_X6_place 0 (μ 0 6)) fun q70 => (if ib (q70 + 3) 2048 = true then (if ((μ 1) (Int32.toNatClampNeg (q70 + 3))) = 0 then lt (f_X6_place 0 (μ 0 6)) fun q94 => (if ib (q94 + 3) 2048 = true then (if ib (q94 + 3) 2048 = true then lt (upR μ 1 (upd (μ 1) (Int32.toNatClampNeg (q94 + 3)) (((μ 1) (Int32.toNatClampNeg (q94 + 3))) + ((μ 1) 1)))) fun m116 => some (true, m116) else none) else none) else lt (f_X6_place 0 (μ 0 6)) fun q94 => (if ib (q94 + 3) 2048 = true then (if ib (q94 + 3) 2048 = true then lt (upR μ 1 (upd (μ 1) (Int32.toNatClampNeg (q94 + 3)) (((μ 1) (Int32.toNatClampNeg (q94 + 3))) + 0))) fun m116 => some (false, m116) else none) else none)) else none) else (if (μ 0 5) = 62 then (f_X6_why μ 0 (μ 0 6) true (μ 0 7)).bind fun q143 => (if q143 = 0 then (if (μ 0 5) = 62 then (f_X6_passes μ 0 (μ 0 6) true (μ 0 7)).bind fun q183 => some (true, q183) else (f_X6_passes μ 0 (μ 0 6) false (μ 0 7)).bind fun q183 => some (true, q183)) else some (false, μ)) else (f_X6_why μ 0 (μ 0 6) false (μ 0 7)).bind fun q143 => (if q143 = 0 then (if (μ 0 5) = 62 then (f_X6_passes μ 0 (μ 0 6) true (μ 0 7)).bind fun q183 => some (true, q183) else (f_X6_passes μ 0 (μ 0 6) false (μ 0 7)).bind fun q183 => some (true, q183)) else some (false, μ))))) else some (false, μ)))
set_option maxHeartbeats 4000000 in
set_option maxRecDepth 100000 in
theorem c_X6_does (l : Launch) (g : Gl) (a : Nat → Nat) (μ : Blk) {res : Bool × Blk} (h : f_X6_does μ = some res) : Ok l g yX6_does cX6_does 2 (Option.some FieldType.boolean) 3 69 [.ref (a 0)] (wM g a μ) (some (.int (b2i res.1))) (wM g a res.2) := by
  refine Ok.of RX6 (by decide) rfl (Nat.le_of_ble_eq_true rfl) (fun x hl hg X F => ?_)
  subst hg; subst hl
  rw [f_X6_does] at h
  show V x (wM x.g a μ) [(0, .ref (a 0))] [] 0
  refine v_aload_n X (pc := 0) dX6_does_0 rfl 0 rfl ?_
  refine v_get X (pc := 1) (v := .int (μ 0 5)) uw6 0 rfl rfl 8 (by decide) q_676 rfl rfl dX6_does_1 ?_
  refine v_bipush X (pc := 4) (v := 104) dX6_does_4 (by decide) ?_
  refine v_icmpne X (pc := 6) (tgt := 20) dX6_does_6 (by decide) (fun c => ?_) (fun c => ?_)
  · replace h := hn c h
    refine v_aload_n X (pc := 20) dX6_does_20 rfl 0 rfl ?_
    refine v_aload_n X (pc := 21) dX6_does_21 rfl 0 rfl ?_
    refine v_get X (pc := 22) (v := .int (μ 0 6)) uw6 0 rfl rfl 9 (by decide) q_677 rfl rfl dX6_does_22 ?_
    obtain ⟨q25, e25, h⟩ := lts h
    refine v_callV X (pc := 25) (st1 := [.int (b2i q25)]) (w' := (wM x.g a μ)) [.int (μ 0 6)] [] (c_X6_isStile x.l x.g a μ (μ 0 6) e25) rfl rfl cw_X6_isStile q_728 q_730 q_22 ⟨by decide, by decide⟩ 0 6 rfl rfl rfl (Fr.all rfl) rfl (Nat.le_of_ble_eq_true rfl) dX6_does_25 ?_
    refine v_ifneB X (pc := 28) (tgt := 33) dX6_does_28 (by decide) (fun c => ?_) (fun c => ?_)
    · replace h := hp c h
      refine v_aload_n X (pc := 33) dX6_does_33 rfl 0 rfl ?_
      refine v_get X (pc := 34) (v := .int (μ 0 5)) uw6 0 rfl rfl 8 (by decide) q_676 rfl rfl dX6_does_34 ?_
      refine v_bipush X (pc := 37) (v := 97) dX6_does_37 (by decide) ?_
      refine v_icmpne X (pc := 39) (tgt := 52) dX6_does_39 (by decide) (fun c => ?_) (fun c => ?_)
      · replace h := hn c h
        refine v_aload_n X (pc := 52) dX6_does_52 rfl 0 rfl ?_
        refine v_get X (pc := 53) (v := .int (μ 0 5)) uw6 0 rfl rfl 8 (by decide) q_676 rfl rfl dX6_does_53 ?_
        refine v_bipush X (pc := 56) (v := 114) dX6_does_56 (by decide) ?_
        refine v_icmpne X (pc := 58) (tgt := 119) dX6_does_58 (by decide) (fun c => ?_) (fun c => ?_)
        · replace h := hn c h
          refine v_aload_n X (pc := 119) dX6_does_119 rfl 0 rfl ?_
          refine v_iconst X (pc := 120) (v := 0) dX6_does_120 (by decide) ?_
          refine v_aload_n X (pc := 121) dX6_does_121 rfl 0 rfl ?_
          refine v_get X (pc := 122) (v := .int (μ 0 6)) uw6 0 rfl rfl 9 (by decide) q_677 rfl rfl dX6_does_122 ?_
          refine v_aload_n X (pc := 125) dX6_does_125 rfl 0 rfl ?_
          refine v_get X (pc := 126) (v := .int (μ 0 5)) uw6 0 rfl rfl 8 (by decide) q_676 rfl rfl dX6_does_126 ?_
          refine v_bipush X (pc := 129) (v := 62) dX6_does_129 (by decide) ?_
          refine v_icmpne X (pc := 131) (tgt := 138) dX6_does_131 (by decide) (fun c => ?_) (fun c => ?_)
          · replace h := hn c h
            refine v_iconst X (pc := 138) (v := 0) dX6_does_138 (by decide) ?_
            refine v_aload_n X (pc := 139) dX6_does_139 rfl 0 rfl ?_
            refine v_get X (pc := 140) (v := .int (μ 0 7)) uw6 0 rfl rfl 10 (by decide) q_678 rfl rfl dX6_does_140 ?_
            obtain ⟨q143, e143, h⟩ := ob h
            refine v_callV X (pc := 143) (st1 := [.int q143]) (w' := (wM x.g a μ)) [.int 0, .int (μ 0 6), .int (b2i false), .int (μ 0 7)] [] (c_X6_why x.l x.g a μ 0 (μ 0 6) false (μ 0 7) e143) rfl rfl cw_X6_why q_755 q_757 q_24 ⟨by decide, by decide⟩ 0 6 rfl rfl rfl (Fr.all rfl) rfl (Nat.le_of_ble_eq_true rfl) dX6_does_143 ?_
            refine v_ifne X (pc := 146) (tgt := 153) dX6_does_146 (by decide) (fun c => ?_) (fun c => ?_)
            · replace h := hn c h
              refine v_iconst X (pc := 153) (v := 0) dX6_does_153 (by decide) ?_
              refine v_istore_n X (pc := 154) (L2 := [(1, .int 0), (0, .ref (a 0))]) dX6_does_154 rfl (by decide) rfl ?_
              refine v_iload_n X (pc := 155) dX6_does_155 rfl 0 rfl ?_
              refine v_ifeq X (pc := 156) (tgt := 186) dX6_does_156 (by decide) (fun _ => ?_) (fun c => absurd c (by decide))
              refine v_iload_n X (pc := 186) dX6_does_186 rfl 0 rfl ?_
              replace h := oi h
              subst h
              exact v_bret X (pc := 187) (b := false) F dX6_does_187
            · replace h := hp c h
              refine v_iconst X (pc := 149) (v := 1) dX6_does_149 (by decide) ?_
              refine v_goto X (pc := 150) (tgt := 154) dX6_does_150 (by decide) ?_
              refine v_istore_n X (pc := 154) (L2 := [(1, .int 1), (0, .ref (a 0))]) dX6_does_154 rfl (by decide) rfl ?_
              refine v_iload_n X (pc := 155) dX6_does_155 rfl 0 rfl ?_
              refine v_ifeq X (pc := 156) (tgt := 186) dX6_does_156 (by decide) (fun c => absurd c (by decide)) (fun _ => ?_)
              refine v_aload_n X (pc := 159) dX6_does_159 rfl 1 rfl ?_
              refine v_iconst X (pc := 160) (v := 0) dX6_does_160 (by decide) ?_
              refine v_aload_n X (pc := 161) dX6_does_161 rfl 1 rfl ?_
              refine v_get X (pc := 162) (v := .int (μ 0 6)) uw6 0 rfl rfl 9 (by decide) q_677 rfl rfl dX6_does_162 ?_
              refine v_aload_n X (pc := 165) dX6_does_165 rfl 1 rfl ?_
              refine v_get X (pc := 166) (v := .int (μ 0 5)) uw6 0 rfl rfl 8 (by decide) q_676 rfl rfl dX6_does_166 ?_
              refine v_bipush X (pc := 169) (v := 62) dX6_does_169 (by decide) ?_
              refine v_icmpne X (pc := 171) (tgt := 178) dX6_does_171 (by decide) (fun c => ?_) (fun c => ?_)
              · replace h := hn c h
                refine v_iconst X (pc := 178) (v := 0) dX6_does_178 (by decide) ?_
                refine v_aload_n X (pc := 179) dX6_does_179 rfl 1 rfl ?_
                refine v_get X (pc := 180) (v := .int (μ 0 7)) uw6 0 rfl rfl 10 (by decide) q_678 rfl rfl dX6_does_180 ?_
                obtain ⟨q183, e183, h⟩ := ob h
                refine v_callV X (pc := 183) (st1 := []) (w' := (wM x.g a q183)) [.int 0, .int (μ 0 6), .int (b2i false), .int (μ 0 7)] [] (c_X6_passes x.l x.g a μ 0 (μ 0 6) false (μ 0 7) e183) rfl rfl cw_X6_passes q_771 q_773 q_28 ⟨by decide, by decide⟩ 0 6 rfl rfl rfl (Fr.all rfl) rfl (Nat.le_of_ble_eq_true rfl) dX6_does_183 ?_
                refine v_iload_n X (pc := 186) dX6_does_186 rfl 0 rfl ?_
                replace h := oi h
                subst h
                exact v_bret X (pc := 187) (b := true) F dX6_does_187
              · replace h := hp c h
                refine v_iconst X (pc := 174) (v := 1) dX6_does_174 (by decide) ?_
                refine v_goto X (pc := 175) (tgt := 179) dX6_does_175 (by decide) ?_
                refine v_aload_n X (pc := 179) dX6_does_179 rfl 1 rfl ?_
                refine v_get X (pc := 180) (v := .int (μ 0 7)) uw6 0 rfl rfl 10 (by decide) q_678 rfl rfl dX6_does_180 ?_
                obtain ⟨q183, e183, h⟩ := ob h
                refine v_callV X (pc := 183) (st1 := []) (w' := (wM x.g a q183)) [.int 0, .int (μ 0 6), .int (b2i true), .int (μ 0 7)] [] (c_X6_passes x.l x.g a μ 0 (μ 0 6) true (μ 0 7) e183) rfl rfl cw_X6_passes q_771 q_773 q_28 ⟨by decide, by decide⟩ 0 6 rfl rfl rfl (Fr.all rfl) rfl (Nat.le_of_ble_eq_true rfl) dX6_does_183 ?_
                refine v_iload_n X (pc := 186) dX6_does_186 rfl 0 rfl ?_
                replace h := oi h
                subst h
                exact v_bret X (pc := 187) (b := true) F dX6_does_187
          · replace h := hp c h
            refine v_iconst X (pc := 134) (v := 1) dX6_does_134 (by decide) ?_
            refine v_goto X (pc := 135) (tgt := 139) dX6_does_135 (by decide) ?_
            refine v_aload_n X (pc := 139) dX6_does_139 rfl 0 rfl ?_
            refine v_get X (pc := 140) (v := .int (μ 0 7)) uw6 0 rfl rfl 10 (by decide) q_678 rfl rfl dX6_does_140 ?_
            obtain ⟨q143, e143, h⟩ := ob h
            refine v_callV X (pc := 143) (st1 := [.int q143]) (w' := (wM x.g a μ)) [.int 0, .int (μ 0 6), .int (b2i true), .int (μ 0 7)] [] (c_X6_why x.l x.g a μ 0 (μ 0 6) true (μ 0 7) e143) rfl rfl cw_X6_why q_755 q_757 q_24 ⟨by decide, by decide⟩ 0 6 rfl rfl rfl (Fr.all rfl) rfl (Nat.le_of_ble_eq_true rfl) dX6_does_143 ?_
            refine v_ifne X (pc := 146) (tgt := 153) dX6_does_146 (by decide) (fun c => ?_) (fun c => ?_)
            · replace h := hn c h
              refine v_iconst X (pc := 153) (v := 0) dX6_does_153 (by decide) ?_
              refine v_istore_n X (pc := 154) (L2 := [(1, .int 0), (0, .ref (a 0))]) dX6_does_154 rfl (by decide) rfl ?_
              refine v_iload_n X (pc := 155) dX6_does_155 rfl 0 rfl ?_
              refine v_ifeq X (pc := 156) (tgt := 186) dX6_does_156 (by decide) (fun _ => ?_) (fun c => absurd c (by decide))
              refine v_iload_n X (pc := 186) dX6_does_186 rfl 0 rfl ?_
              replace h := oi h
              subst h
              exact v_bret X (pc := 187) (b := false) F dX6_does_187
            · replace h := hp c h
              refine v_iconst X (pc := 149) (v := 1) dX6_does_149 (by decide) ?_
              refine v_goto X (pc := 150) (tgt := 154) dX6_does_150 (by decide) ?_
              refine v_istore_n X (pc := 154) (L2 := [(1, .int 1), (0, .ref (a 0))]) dX6_does_154 rfl (by decide) rfl ?_
              refine v_iload_n X (pc := 155) dX6_does_155 rfl 0 rfl ?_
              refine v_ifeq X (pc := 156) (tgt := 186) dX6_does_156 (by decide) (fun c => absurd c (by decide)) (fun _ => ?_)
              refine v_aload_n X (pc := 159) dX6_does_159 rfl 1 rfl ?_
              refine v_iconst X (pc := 160) (v := 0) dX6_does_160 (by decide) ?_
              refine v_aload_n X (pc := 161) dX6_does_161 rfl 1 rfl ?_
              refine v_get X (pc := 162) (v := .int (μ 0 6)) uw6 0 rfl rfl 9 (by decide) q_677 rfl rfl dX6_does_162 ?_
              refine v_aload_n X (pc := 165) dX6_does_165 rfl 1 rfl ?_
              refine v_get X (pc := 166) (v := .int (μ 0 5)) uw6 0 rfl rfl 8 (by decide) q_676 rfl rfl dX6_does_166 ?_
              refine v_bipush X (pc := 169) (v := 62) dX6_does_169 (by decide) ?_
              refine v_icmpne X (pc := 171) (tgt := 178) dX6_does_171 (by decide) (fun c => ?_) (fun c => ?_)
              · replace h := hn c h
                refine v_iconst X (pc := 178) (v := 0) dX6_does_178 (by decide) ?_
                refine v_aload_n X (pc := 179) dX6_does_179 rfl 1 rfl ?_
                refine v_get X (pc := 180) (v := .int (μ 0 7)) uw6 0 rfl rfl 10 (by decide) q_678 rfl rfl dX6_does_180 ?_
                obtain ⟨q183, e183, h⟩ := ob h
                refine v_callV X (pc := 183) (st1 := []) (w' := (wM x.g a q183)) [.int 0, .int (μ 0 6), .int (b2i false), .int (μ 0 7)] [] (c_X6_passes x.l x.g a μ 0 (μ 0 6) false (μ 0 7) e183) rfl rfl cw_X6_passes q_771 q_773 q_28 ⟨by decide, by decide⟩ 0 6 rfl rfl rfl (Fr.all rfl) rfl (Nat.le_of_ble_eq_true rfl) dX6_does_183 ?_
                refine v_iload_n X (pc := 186) dX6_does_186 rfl 0 rfl ?_
                replace h := oi h
                subst h
                exact v_bret X (pc := 187) (b := true) F dX6_does_187
              · replace h := hp c h
                refine v_iconst X (pc := 174) (v := 1) dX6_does_174 (by decide) ?_
                refine v_goto X (pc := 175) (tgt := 179) dX6_does_175 (by decide) ?_
                refine v_aload_n X (pc := 179) dX6_does_179 rfl 1 rfl ?_
                refine v_get X (pc := 180) (v := .int (μ 0 7)) uw6 0 rfl rfl 10 (by decide) q_678 rfl rfl dX6_does_180 ?_
                obtain ⟨q183, e183, h⟩ := ob h
                refine v_callV X (pc := 183) (st1 := []) (w' := (wM x.g a q183)) [.int 0, .int (μ 0 6), .int (b2i true), .int (μ 0 7)] [] (c_X6_passes x.l x.g a μ 0 (μ 0 6) true (μ 0 7) e183) rfl rfl cw_X6_passes q_771 q_773 q_28 ⟨by decide, by decide⟩ 0 6 rfl rfl rfl (Fr.all rfl) rfl (Nat.le_of_ble_eq_true rfl) dX6_does_183 ?_
                refine v_iload_n X (pc := 186) dX6_does_186 rfl 0 rfl ?_
                replace h := oi h
                subst h
                exact v_bret X (pc := 187) (b := true) F dX6_does_187
        · replace h := hp c h
          refine v_aload_n X (pc := 61) dX6_does_61 rfl 0 rfl ?_
          refine v_get X (pc := 62) (v := .ref (a 1)) uw6 0 rfl rfl 0 (by decide) q_668 rfl rfl dX6_does_62 ?_
          refine v_iconst X (pc := 65) (v := 0) dX6_does_65 (by decide) ?_
          refine v_aload_n X (pc := 66) dX6_does_66 rfl 0 rfl ?_
          refine v_get X (pc := 67) (v := .int (μ 0 6)) uw6 0 rfl rfl 9 (by decide) q_677 rfl rfl dX6_does_67 ?_
          obtain ⟨q70, e70, h⟩ := lts h
          refine v_callS X (pc := 70) (st1 := [.int q70, .ref (a 1)]) (w' := (wM x.g a μ)) [.int 0, .int (μ 0 6)] [.ref (a 1)] (c_X6_place x.l x.g  0 (μ 0 6) e70) rfl rfl cw_X6_place q_721 q_722 ⟨by decide, by decide⟩ Fr.nil rfl (Nat.le_of_ble_eq_true rfl) dX6_does_70 ?_
          refine v_iconst X (pc := 73) (v := 3) dX6_does_73 (by decide) ?_
          refine v_iadd X (pc := 74) dX6_does_74 ?_
          obtain ⟨g75, h⟩ := og h
          refine v_iald X (pc := 75) (v := ((μ 1) (Int32.toNatClampNeg (q70 + 3)))) 1 rfl (ib_in g75) rfl dX6_does_75 ?_
          refine v_ifne X (pc := 76) (tgt := 83) dX6_does_76 (by decide) (fun c => ?_) (fun c => ?_)
          · replace h := hn c h
            refine v_iconst X (pc := 83) (v := 0) dX6_does_83 (by decide) ?_
            refine v_istore_n X (pc := 84) (L2 := [(1, .int 0), (0, .ref (a 0))]) dX6_does_84 rfl (by decide) rfl ?_
            refine v_aload_n X (pc := 85) dX6_does_85 rfl 1 rfl ?_
            refine v_get X (pc := 86) (v := .ref (a 1)) uw6 0 rfl rfl 0 (by decide) q_668 rfl rfl dX6_does_86 ?_
            refine v_iconst X (pc := 89) (v := 0) dX6_does_89 (by decide) ?_
            refine v_aload_n X (pc := 90) dX6_does_90 rfl 1 rfl ?_
            refine v_get X (pc := 91) (v := .int (μ 0 6)) uw6 0 rfl rfl 9 (by decide) q_677 rfl rfl dX6_does_91 ?_
            obtain ⟨q94, e94, h⟩ := lts h
            refine v_callS X (pc := 94) (st1 := [.int q94, .ref (a 1)]) (w' := (wM x.g a μ)) [.int 0, .int (μ 0 6)] [.ref (a 1)] (c_X6_place x.l x.g  0 (μ 0 6) e94) rfl rfl cw_X6_place q_721 q_722 ⟨by decide, by decide⟩ Fr.nil rfl (Nat.le_of_ble_eq_true rfl) dX6_does_94 ?_
            refine v_iconst X (pc := 97) (v := 3) dX6_does_97 (by decide) ?_
            refine v_iadd X (pc := 98) dX6_does_98 ?_
            refine v_dup2 X (pc := 99) dX6_does_99 rfl rfl ?_
            obtain ⟨g100, h⟩ := og h
            refine v_iald X (pc := 100) (v := ((μ 1) (Int32.toNatClampNeg (q94 + 3)))) 1 rfl (ib_in g100) rfl dX6_does_100 ?_
            refine v_iload_n X (pc := 101) dX6_does_101 rfl 0 rfl ?_
            refine v_ifeq X (pc := 102) (tgt := 114) dX6_does_102 (by decide) (fun _ => ?_) (fun c => absurd c (by decide))
            refine v_iconst X (pc := 114) (v := 0) dX6_does_114 (by decide) ?_
            refine v_iadd X (pc := 115) dX6_does_115 ?_
            obtain ⟨g116, h⟩ := og h
            obtain ⟨m116, em116, h⟩ := lts h
            refine v_iast X (pc := 116) (w' := (wM x.g a m116)) 1 rfl (ib_in g116) (by rw [← em116]; rfl) dX6_does_116 ?_
            refine v_iload_n X (pc := 117) dX6_does_117 rfl 0 rfl ?_
            replace h := oi h
            subst h
            exact v_bret X (pc := 118) (b := false) F dX6_does_118
          · replace h := hp c h
            refine v_iconst X (pc := 79) (v := 1) dX6_does_79 (by decide) ?_
            refine v_goto X (pc := 80) (tgt := 84) dX6_does_80 (by decide) ?_
            refine v_istore_n X (pc := 84) (L2 := [(1, .int 1), (0, .ref (a 0))]) dX6_does_84 rfl (by decide) rfl ?_
            refine v_aload_n X (pc := 85) dX6_does_85 rfl 1 rfl ?_
            refine v_get X (pc := 86) (v := .ref (a 1)) uw6 0 rfl rfl 0 (by decide) q_668 rfl rfl dX6_does_86 ?_
            refine v_iconst X (pc := 89) (v := 0) dX6_does_89 (by decide) ?_
            refine v_aload_n X (pc := 90) dX6_does_90 rfl 1 rfl ?_
            refine v_get X (pc := 91) (v := .int (μ 0 6)) uw6 0 rfl rfl 9 (by decide) q_677 rfl rfl dX6_does_91 ?_
            obtain ⟨q94, e94, h⟩ := lts h
            refine v_callS X (pc := 94) (st1 := [.int q94, .ref (a 1)]) (w' := (wM x.g a μ)) [.int 0, .int (μ 0 6)] [.ref (a 1)] (c_X6_place x.l x.g  0 (μ 0 6) e94) rfl rfl cw_X6_place q_721 q_722 ⟨by decide, by decide⟩ Fr.nil rfl (Nat.le_of_ble_eq_true rfl) dX6_does_94 ?_
            refine v_iconst X (pc := 97) (v := 3) dX6_does_97 (by decide) ?_
            refine v_iadd X (pc := 98) dX6_does_98 ?_
            refine v_dup2 X (pc := 99) dX6_does_99 rfl rfl ?_
            obtain ⟨g100, h⟩ := og h
            refine v_iald X (pc := 100) (v := ((μ 1) (Int32.toNatClampNeg (q94 + 3)))) 1 rfl (ib_in g100) rfl dX6_does_100 ?_
            refine v_iload_n X (pc := 101) dX6_does_101 rfl 0 rfl ?_
            refine v_ifeq X (pc := 102) (tgt := 114) dX6_does_102 (by decide) (fun c => absurd c (by decide)) (fun _ => ?_)
            refine v_aload_n X (pc := 105) dX6_does_105 rfl 1 rfl ?_
            refine v_get X (pc := 106) (v := .ref (a 1)) uw6 0 rfl rfl 0 (by decide) q_668 rfl rfl dX6_does_106 ?_
            refine v_iconst X (pc := 109) (v := 1) dX6_does_109 (by decide) ?_
            refine v_iald X (pc := 110) (v := ((μ 1) 1)) 1 rfl (ib_in (by decide)) rfl dX6_does_110 ?_
            refine v_goto X (pc := 111) (tgt := 115) dX6_does_111 (by decide) ?_
            refine v_iadd X (pc := 115) dX6_does_115 ?_
            obtain ⟨g116, h⟩ := og h
            obtain ⟨m116, em116, h⟩ := lts h
            refine v_iast X (pc := 116) (w' := (wM x.g a m116)) 1 rfl (ib_in g116) (by rw [← em116]; rfl) dX6_does_116 ?_
            refine v_iload_n X (pc := 117) dX6_does_117 rfl 0 rfl ?_
            replace h := oi h
            subst h
            exact v_bret X (pc := 118) (b := true) F dX6_does_118
      · replace h := hp c h
        refine v_aload_n X (pc := 42) dX6_does_42 rfl 0 rfl ?_
        refine v_aload_n X (pc := 43) dX6_does_43 rfl 0 rfl ?_
        refine v_get X (pc := 44) (v := .int (μ 0 6)) uw6 0 rfl rfl 9 (by decide) q_677 rfl rfl dX6_does_44 ?_
        obtain ⟨q47, e47, h⟩ := ob h
        refine v_callV X (pc := 47) (st1 := []) (w' := (wM x.g a q47)) [.int (μ 0 6)] [] (c_X6_audits x.l x.g a μ (μ 0 6) e47) rfl rfl cw_X6_audits q_794 q_796 q_32 ⟨by decide, by decide⟩ 0 6 rfl rfl rfl (Fr.all rfl) rfl (Nat.le_of_ble_eq_true rfl) dX6_does_47 ?_
        refine v_iconst X (pc := 50) (v := 1) dX6_does_50 (by decide) ?_
        replace h := oi h
        subst h
        exact v_bret X (pc := 51) (b := true) F dX6_does_51
    · replace h := hn (nbt c) h
      refine v_iconst X (pc := 31) (v := 0) dX6_does_31 (by decide) ?_
      replace h := oi h
      subst h
      exact v_bret X (pc := 32) (b := false) F dX6_does_32
  · replace h := hp c h
    refine v_aload_n X (pc := 9) dX6_does_9 rfl 0 rfl ?_
    refine v_aload_n X (pc := 10) dX6_does_10 rfl 0 rfl ?_
    refine v_get X (pc := 11) (v := .int (μ 0 7)) uw6 0 rfl rfl 10 (by decide) q_678 rfl rfl dX6_does_11 ?_
    obtain ⟨q14, e14, h⟩ := ob h
    refine v_callV X (pc := 14) (st1 := [.int q14.1]) (w' := (wM x.g a q14.2)) [.int (μ 0 7)] [] (c_X6_hoursPass x.l x.g a μ (μ 0 7) e14) rfl rfl cw_X6_hoursPass q_806 q_808 q_33 ⟨by decide, by decide⟩ 0 6 rfl rfl rfl (Fr.all rfl) rfl (Nat.le_of_ble_eq_true rfl) dX6_does_14 ?_
    refine v_pop X (pc := 17) dX6_does_17 rfl ?_
    refine v_iconst X (pc := 18) (v := 1) dX6_does_18 (by decide) ?_
    replace h := oi h
    subst h
    exact v_bret X (pc := 19) (b := true) F dX6_does_19
theorem cw_X6_does : CwB yX6_does cX6_does 2 (Option.some FieldType.boolean) 0 := ⟨q_874, q_57, by decide, by decide, by decide +kernel⟩
def f_X6_run_L29  : Nat → Blk → Int32 → Int32 → Option (Int32 × Blk)
  | 0, _, _, _ => none
  | n + 1, μ, x2, x3 =>
    (if x3 = 0 then some (x2, μ) else (f_X6_readsOrder μ).bind fun q34 => (f_X6_does q34).bind fun q38 => (if q38.1 = true then (if q38.1 = true then (if (q38.2 0 2) ≤ (q38.2 0 3) then lt (up q38.2 0 3 ((q38.2 0 3) + 1)) fun m85 => f_X6_run_L29  n m85 (x2 + 1) 0 else lt (up q38.2 0 3 ((q38.2 0 3) + 1)) fun m85 => f_X6_run_L29  n m85 (x2 + 1) 1) else lt (up q38.2 0 3 ((q38.2 0 3) + 1)) fun m85 => f_X6_run_L29  n m85 (x2 + 1) 0) else (if q38.1 = true then (if (q38.2 0 2) ≤ (q38.2 0 3) then lt (up q38.2 0 3 ((q38.2 0 3) + 1)) fun m85 => f_X6_run_L29  n m85 (x2 + 0) 0 else lt (up q38.2 0 3 ((q38.2 0 3) + 1)) fun m85 => f_X6_run_L29  n m85 (x2 + 0) 1) else lt (up q38.2 0 3 ((q38.2 0 3) + 1)) fun m85 => f_X6_run_L29  n m85 (x2 + 0) 0)))
set_option maxHeartbeats 4000000 in
set_option maxRecDepth 100000 in
theorem v_X6_run_L29 {x : Ctx} (X : Cx x RX6 cX6_run 5 5 106) (a : Nat → Nat)  : ∀ (n : Nat) (μ : Blk) (x2 : Int32) (x3 : Int32) {res : Int32 × Blk}, f_X6_run_L29  n μ x2 x3 = some res → Fn x (Option.some FieldType.int) (some (.int res.1)) (wM x.g a res.2) → V x (wM x.g a μ) [(0, .ref (a 0)), (2, .int x2), (3, .int x3)] [] 29 := by
  intro n
  induction n with
  | zero =>
    intro μ x2 x3 res h F
    rw [f_X6_run_L29] at h
    cases h
  | succ n ih =>
    intro μ x2 x3 res h F
    rw [f_X6_run_L29] at h
    refine v_iload_n X (pc := 29) dX6_run_29 rfl 2 rfl ?_
    refine v_ifeq X (pc := 30) (tgt := 91) dX6_run_30 (by decide) (fun c => ?_) (fun c => ?_)
    · replace h := hp c h
      refine v_iload_n X (pc := 91) dX6_run_91 rfl 1 rfl ?_
      replace h := oi h
      subst h
      exact v_iret X (pc := 92) F dX6_run_92
    · replace h := hn c h
      refine v_aload_n X (pc := 33) dX6_run_33 rfl 0 rfl ?_
      obtain ⟨q34, e34, h⟩ := ob h
      refine v_callV X (pc := 34) (st1 := []) (w' := (wM x.g a q34)) [] [] (c_X6_readsOrder x.l x.g a μ e34) rfl rfl cw_X6_readsOrder q_855 q_857 q_40 ⟨by decide, by decide⟩ 0 6 rfl rfl rfl (Fr.all rfl) rfl (Nat.le_of_ble_eq_true rfl) dX6_run_34 ?_
      refine v_aload_n X (pc := 37) dX6_run_37 rfl 0 rfl ?_
      obtain ⟨q38, e38, h⟩ := ob h
      refine v_callV X (pc := 38) (st1 := [.int (b2i q38.1)]) (w' := (wM x.g a q38.2)) [] [] (c_X6_does x.l x.g a q34 e38) rfl rfl cw_X6_does q_871 q_873 q_43 ⟨by decide, by decide⟩ 0 6 rfl rfl rfl (Fr.all rfl) rfl (Nat.le_of_ble_eq_true rfl) dX6_run_38 ?_
      refine v_istore X (pc := 41) (L2 := [(4, .int (b2i q38.1)), (0, .ref (a 0)), (2, .int x2), (3, .int x3)]) dX6_run_41 (by decide) rfl ?_
      refine v_iload_n X (pc := 43) dX6_run_43 rfl 2 rfl ?_
      refine v_iload X (pc := 44) dX6_run_44 0 rfl ?_
      refine v_ifeqB X (pc := 46) (tgt := 53) dX6_run_46 (by decide) (fun c => ?_) (fun c => ?_)
      · replace h := hn (nbt c) h
        refine v_iconst X (pc := 53) (v := 0) dX6_run_53 (by decide) ?_
        refine v_iadd X (pc := 54) dX6_run_54 ?_
        refine v_istore_n X (pc := 55) (L2 := [(2, .int (x2 + 0)), (4, .int (b2i q38.1)), (0, .ref (a 0)), (3, .int x3)]) dX6_run_55 rfl (by decide) rfl ?_
        refine v_iload X (pc := 56) dX6_run_56 1 rfl ?_
        refine v_ifeqB X (pc := 58) (tgt := 76) dX6_run_58 (by decide) (fun c => ?_) (fun c => ?_)
        · replace h := hn (nbt c) h
          refine v_iconst X (pc := 76) (v := 0) dX6_run_76 (by decide) ?_
          refine v_istore_n X (pc := 77) (L2 := [(3, .int 0), (2, .int (x2 + 0)), (4, .int (b2i q38.1)), (0, .ref (a 0))]) dX6_run_77 rfl (by decide) rfl ?_
          refine v_aload_n X (pc := 78) dX6_run_78 rfl 3 rfl ?_
          refine v_dup X (pc := 79) dX6_run_79 rfl ?_
          refine v_get X (pc := 80) (v := .int (q38.2 0 3)) uw6 0 rfl rfl 6 (by decide) q_674 rfl rfl dX6_run_80 ?_
          refine v_iconst X (pc := 83) (v := 1) dX6_run_83 (by decide) ?_
          refine v_iadd X (pc := 84) dX6_run_84 ?_
          obtain ⟨m85, em85, h⟩ := lts h
          refine v_put X (pc := 85) (w' := (wM x.g a m85)) uw6 0 rfl rfl 6 (by decide) q_674 rfl tyX6 tyX6_ok nmX6 rfl rfl rfl (Nat.le_of_ble_eq_true rfl) (by rw [← em85]; rfl) dX6_run_85 ?_
          refine v_goto X (pc := 88) (tgt := 29) dX6_run_88 (by decide) ?_
          refine v_sub (L2 := [(0, .ref (a 0)), (2, .int (x2 + 0)), (3, .int 0)]) [3, 1, 0] rfl ?_
          exact ih m85 (x2 + 0) 0 h F
        · replace h := hp c h
          refine v_aload_n X (pc := 61) dX6_run_61 rfl 2 rfl ?_
          refine v_get X (pc := 62) (v := .int (q38.2 0 3)) uw6 0 rfl rfl 6 (by decide) q_674 rfl rfl dX6_run_62 ?_
          refine v_aload_n X (pc := 65) dX6_run_65 rfl 2 rfl ?_
          refine v_get X (pc := 66) (v := .int (q38.2 0 2)) uw6 0 rfl rfl 4 (by decide) q_672 rfl rfl dX6_run_66 ?_
          refine v_icmpge X (pc := 69) (tgt := 76) dX6_run_69 (by decide) (fun c => ?_) (fun c => ?_)
          · replace h := hp c h
            refine v_iconst X (pc := 76) (v := 0) dX6_run_76 (by decide) ?_
            refine v_istore_n X (pc := 77) (L2 := [(3, .int 0), (2, .int (x2 + 0)), (4, .int (b2i q38.1)), (0, .ref (a 0))]) dX6_run_77 rfl (by decide) rfl ?_
            refine v_aload_n X (pc := 78) dX6_run_78 rfl 3 rfl ?_
            refine v_dup X (pc := 79) dX6_run_79 rfl ?_
            refine v_get X (pc := 80) (v := .int (q38.2 0 3)) uw6 0 rfl rfl 6 (by decide) q_674 rfl rfl dX6_run_80 ?_
            refine v_iconst X (pc := 83) (v := 1) dX6_run_83 (by decide) ?_
            refine v_iadd X (pc := 84) dX6_run_84 ?_
            obtain ⟨m85, em85, h⟩ := lts h
            refine v_put X (pc := 85) (w' := (wM x.g a m85)) uw6 0 rfl rfl 6 (by decide) q_674 rfl tyX6 tyX6_ok nmX6 rfl rfl rfl (Nat.le_of_ble_eq_true rfl) (by rw [← em85]; rfl) dX6_run_85 ?_
            refine v_goto X (pc := 88) (tgt := 29) dX6_run_88 (by decide) ?_
            refine v_sub (L2 := [(0, .ref (a 0)), (2, .int (x2 + 0)), (3, .int 0)]) [3, 1, 0] rfl ?_
            exact ih m85 (x2 + 0) 0 h F
          · replace h := hn c h
            refine v_iconst X (pc := 72) (v := 1) dX6_run_72 (by decide) ?_
            refine v_goto X (pc := 73) (tgt := 77) dX6_run_73 (by decide) ?_
            refine v_istore_n X (pc := 77) (L2 := [(3, .int 1), (2, .int (x2 + 0)), (4, .int (b2i q38.1)), (0, .ref (a 0))]) dX6_run_77 rfl (by decide) rfl ?_
            refine v_aload_n X (pc := 78) dX6_run_78 rfl 3 rfl ?_
            refine v_dup X (pc := 79) dX6_run_79 rfl ?_
            refine v_get X (pc := 80) (v := .int (q38.2 0 3)) uw6 0 rfl rfl 6 (by decide) q_674 rfl rfl dX6_run_80 ?_
            refine v_iconst X (pc := 83) (v := 1) dX6_run_83 (by decide) ?_
            refine v_iadd X (pc := 84) dX6_run_84 ?_
            obtain ⟨m85, em85, h⟩ := lts h
            refine v_put X (pc := 85) (w' := (wM x.g a m85)) uw6 0 rfl rfl 6 (by decide) q_674 rfl tyX6 tyX6_ok nmX6 rfl rfl rfl (Nat.le_of_ble_eq_true rfl) (by rw [← em85]; rfl) dX6_run_85 ?_
            refine v_goto X (pc := 88) (tgt := 29) dX6_run_88 (by decide) ?_
            refine v_sub (L2 := [(0, .ref (a 0)), (2, .int (x2 + 0)), (3, .int 1)]) [3, 1, 0] rfl ?_
            exact ih m85 (x2 + 0) 1 h F
      · replace h := hp c h
        refine v_iconst X (pc := 49) (v := 1) dX6_run_49 (by decide) ?_
        refine v_goto X (pc := 50) (tgt := 54) dX6_run_50 (by decide) ?_
        refine v_iadd X (pc := 54) dX6_run_54 ?_
        refine v_istore_n X (pc := 55) (L2 := [(2, .int (x2 + 1)), (4, .int (b2i q38.1)), (0, .ref (a 0)), (3, .int x3)]) dX6_run_55 rfl (by decide) rfl ?_
        refine v_iload X (pc := 56) dX6_run_56 1 rfl ?_
        refine v_ifeqB X (pc := 58) (tgt := 76) dX6_run_58 (by decide) (fun c => ?_) (fun c => ?_)
        · replace h := hn (nbt c) h
          refine v_iconst X (pc := 76) (v := 0) dX6_run_76 (by decide) ?_
          refine v_istore_n X (pc := 77) (L2 := [(3, .int 0), (2, .int (x2 + 1)), (4, .int (b2i q38.1)), (0, .ref (a 0))]) dX6_run_77 rfl (by decide) rfl ?_
          refine v_aload_n X (pc := 78) dX6_run_78 rfl 3 rfl ?_
          refine v_dup X (pc := 79) dX6_run_79 rfl ?_
          refine v_get X (pc := 80) (v := .int (q38.2 0 3)) uw6 0 rfl rfl 6 (by decide) q_674 rfl rfl dX6_run_80 ?_
          refine v_iconst X (pc := 83) (v := 1) dX6_run_83 (by decide) ?_
          refine v_iadd X (pc := 84) dX6_run_84 ?_
          obtain ⟨m85, em85, h⟩ := lts h
          refine v_put X (pc := 85) (w' := (wM x.g a m85)) uw6 0 rfl rfl 6 (by decide) q_674 rfl tyX6 tyX6_ok nmX6 rfl rfl rfl (Nat.le_of_ble_eq_true rfl) (by rw [← em85]; rfl) dX6_run_85 ?_
          refine v_goto X (pc := 88) (tgt := 29) dX6_run_88 (by decide) ?_
          refine v_sub (L2 := [(0, .ref (a 0)), (2, .int (x2 + 1)), (3, .int 0)]) [3, 1, 0] rfl ?_
          exact ih m85 (x2 + 1) 0 h F
        · replace h := hp c h
          refine v_aload_n X (pc := 61) dX6_run_61 rfl 2 rfl ?_
          refine v_get X (pc := 62) (v := .int (q38.2 0 3)) uw6 0 rfl rfl 6 (by decide) q_674 rfl rfl dX6_run_62 ?_
          refine v_aload_n X (pc := 65) dX6_run_65 rfl 2 rfl ?_
          refine v_get X (pc := 66) (v := .int (q38.2 0 2)) uw6 0 rfl rfl 4 (by decide) q_672 rfl rfl dX6_run_66 ?_
          refine v_icmpge X (pc := 69) (tgt := 76) dX6_run_69 (by decide) (fun c => ?_) (fun c => ?_)
          · replace h := hp c h
            refine v_iconst X (pc := 76) (v := 0) dX6_run_76 (by decide) ?_
            refine v_istore_n X (pc := 77) (L2 := [(3, .int 0), (2, .int (x2 + 1)), (4, .int (b2i q38.1)), (0, .ref (a 0))]) dX6_run_77 rfl (by decide) rfl ?_
            refine v_aload_n X (pc := 78) dX6_run_78 rfl 3 rfl ?_
            refine v_dup X (pc := 79) dX6_run_79 rfl ?_
            refine v_get X (pc := 80) (v := .int (q38.2 0 3)) uw6 0 rfl rfl 6 (by decide) q_674 rfl rfl dX6_run_80 ?_
            refine v_iconst X (pc := 83) (v := 1) dX6_run_83 (by decide) ?_
            refine v_iadd X (pc := 84) dX6_run_84 ?_
            obtain ⟨m85, em85, h⟩ := lts h
            refine v_put X (pc := 85) (w' := (wM x.g a m85)) uw6 0 rfl rfl 6 (by decide) q_674 rfl tyX6 tyX6_ok nmX6 rfl rfl rfl (Nat.le_of_ble_eq_true rfl) (by rw [← em85]; rfl) dX6_run_85 ?_
            refine v_goto X (pc := 88) (tgt := 29) dX6_run_88 (by decide) ?_
            refine v_sub (L2 := [(0, .ref (a 0)), (2, .int (x2 + 1)), (3, .int 0)]) [3, 1, 0] rfl ?_
            exact ih m85 (x2 + 1) 0 h F
          · replace h := hn c h
            refine v_iconst X (pc := 72) (v := 1) dX6_run_72 (by decide) ?_
            refine v_goto X (pc := 73) (tgt := 77) dX6_run_73 (by decide) ?_
            refine v_istore_n X (pc := 77) (L2 := [(3, .int 1), (2, .int (x2 + 1)), (4, .int (b2i q38.1)), (0, .ref (a 0))]) dX6_run_77 rfl (by decide) rfl ?_
            refine v_aload_n X (pc := 78) dX6_run_78 rfl 3 rfl ?_
            refine v_dup X (pc := 79) dX6_run_79 rfl ?_
            refine v_get X (pc := 80) (v := .int (q38.2 0 3)) uw6 0 rfl rfl 6 (by decide) q_674 rfl rfl dX6_run_80 ?_
            refine v_iconst X (pc := 83) (v := 1) dX6_run_83 (by decide) ?_
            refine v_iadd X (pc := 84) dX6_run_84 ?_
            obtain ⟨m85, em85, h⟩ := lts h
            refine v_put X (pc := 85) (w' := (wM x.g a m85)) uw6 0 rfl rfl 6 (by decide) q_674 rfl tyX6 tyX6_ok nmX6 rfl rfl rfl (Nat.le_of_ble_eq_true rfl) (by rw [← em85]; rfl) dX6_run_85 ?_
            refine v_goto X (pc := 88) (tgt := 29) dX6_run_88 (by decide) ?_
            refine v_sub (L2 := [(0, .ref (a 0)), (2, .int (x2 + 1)), (3, .int 1)]) [3, 1, 0] rfl ?_
            exact ih m85 (x2 + 1) 1 h F
def f_X6_run (μ : Blk) : Option (Int32 × Blk) :=
  (f_X6_faultOf μ).bind fun q1 => (if q1.1 = (-100005) then (f_X6_records q1.2).bind fun q17 => lt (up q17 0 3 0) fun m22 => f_X6_run_L29  FU m22 0 1 else some (((-100) - q1.1), q1.2))
set_option maxHeartbeats 4000000 in
set_option maxRecDepth 100000 in
theorem c_X6_run (l : Launch) (g : Gl) (a : Nat → Nat) (μ : Blk) {res : Int32 × Blk} (h : f_X6_run μ = some res) : Ok l g yX6_run cX6_run 5 (Option.some FieldType.int) 5 106 [.ref (a 0)] (wM g a μ) (some (.int res.1)) (wM g a res.2) := by
  refine Ok.of RX6 (by decide) rfl (Nat.le_of_ble_eq_true rfl) (fun x hl hg X F => ?_)
  subst hg; subst hl
  rw [f_X6_run] at h
  show V x (wM x.g a μ) [(0, .ref (a 0))] [] 0
  refine v_aload_n X (pc := 0) dX6_run_0 rfl 0 rfl ?_
  obtain ⟨q1, e1, h⟩ := ob h
  refine v_callV X (pc := 1) (st1 := [.int q1.1]) (w' := (wM x.g a q1.2)) [] [] (c_X6_faultOf x.l x.g a μ e1) rfl rfl cw_X6_faultOf q_851 q_853 q_39 ⟨by decide, by decide⟩ 0 6 rfl rfl rfl (Fr.all rfl) rfl (Nat.le_of_ble_eq_true rfl) dX6_run_1 ?_
  refine v_istore_n X (pc := 4) (L2 := [(1, .int q1.1), (0, .ref (a 0))]) dX6_run_4 rfl (by decide) rfl ?_
  refine v_iload_n X (pc := 5) dX6_run_5 rfl 0 rfl ?_
  refine v_ldc X (pc := 6) (v := (-100005)) q_826 dX6_run_6 ?_
  refine v_icmpeq X (pc := 8) (tgt := 16) dX6_run_8 (by decide) (fun c => ?_) (fun c => ?_)
  · replace h := hp c h
    refine v_aload_n X (pc := 16) dX6_run_16 rfl 1 rfl ?_
    obtain ⟨q17, e17, h⟩ := ob h
    refine v_callV X (pc := 17) (st1 := []) (w' := (wM x.g a q17)) [] [] (c_X6_records x.l x.g a q1.2 e17) rfl rfl cw_X6_records q_713 q_715 q_20 ⟨by decide, by decide⟩ 0 6 rfl rfl rfl (Fr.all rfl) rfl (Nat.le_of_ble_eq_true rfl) dX6_run_17 ?_
    refine v_aload_n X (pc := 20) dX6_run_20 rfl 1 rfl ?_
    refine v_iconst X (pc := 21) (v := 0) dX6_run_21 (by decide) ?_
    obtain ⟨m22, em22, h⟩ := lts h
    refine v_put X (pc := 22) (w' := (wM x.g a m22)) uw6 0 rfl rfl 6 (by decide) q_674 rfl tyX6 tyX6_ok nmX6 rfl rfl rfl (Nat.le_of_ble_eq_true rfl) (by rw [← em22]; rfl) dX6_run_22 ?_
    refine v_iconst X (pc := 25) (v := 0) dX6_run_25 (by decide) ?_
    refine v_istore_n X (pc := 26) (L2 := [(2, .int 0), (1, .int q1.1), (0, .ref (a 0))]) dX6_run_26 rfl (by decide) rfl ?_
    refine v_iconst X (pc := 27) (v := 1) dX6_run_27 (by decide) ?_
    refine v_istore_n X (pc := 28) (L2 := [(3, .int 1), (2, .int 0), (1, .int q1.1), (0, .ref (a 0))]) dX6_run_28 rfl (by decide) rfl ?_
    refine v_sub (L2 := [(0, .ref (a 0)), (2, .int 0), (3, .int 1)]) [3, 1, 0] rfl ?_
    exact v_X6_run_L29 X a  FU m22 0 1 h F
  · replace h := hn c h
    refine v_bipush X (pc := 11) (v := (-100)) dX6_run_11 (by decide) ?_
    refine v_iload_n X (pc := 13) dX6_run_13 rfl 0 rfl ?_
    refine v_isub X (pc := 14) dX6_run_14 ?_
    replace h := oi h
    subst h
    exact v_iret X (pc := 15) F dX6_run_15
theorem cw_X6_run : CwB yX6_run cX6_run 5 (Option.some FieldType.int) 0 := ⟨q_870, q_57, by decide, by decide, by decide +kernel⟩
def f_X6_undo (μ : Blk) : Option (Int32 × Blk) :=
  (if (μ 0 0) = 0 then some ((-100005), μ) else (f_X6_copies μ (μ 0 0) 0).bind fun q16 => lt (up q16 0 0 ((q16 0 0) - 1)) fun m26 => some ((m26 0 0), m26))
set_option maxHeartbeats 4000000 in
set_option maxRecDepth 100000 in
theorem c_X6_undo (l : Launch) (g : Gl) (a : Nat → Nat) (μ : Blk) {res : Int32 × Blk} (h : f_X6_undo μ = some res) : Ok l g yX6_undo cX6_undo 1 (Option.some FieldType.int) 1 23 [.ref (a 0)] (wM g a μ) (some (.int res.1)) (wM g a res.2) := by
  refine Ok.of RX6 (by decide) rfl (Nat.le_of_ble_eq_true rfl) (fun x hl hg X F => ?_)
  subst hg; subst hl
  rw [f_X6_undo] at h
  show V x (wM x.g a μ) [(0, .ref (a 0))] [] 0
  refine v_aload_n X (pc := 0) dX6_undo_0 rfl 0 rfl ?_
  refine v_get X (pc := 1) (v := .int (μ 0 0)) uw6 0 rfl rfl 1 (by decide) q_669 rfl rfl dX6_undo_1 ?_
  refine v_ifne X (pc := 4) (tgt := 10) dX6_undo_4 (by decide) (fun c => ?_) (fun c => ?_)
  · replace h := hn c h
    refine v_aload_n X (pc := 10) dX6_undo_10 rfl 0 rfl ?_
    refine v_aload_n X (pc := 11) dX6_undo_11 rfl 0 rfl ?_
    refine v_get X (pc := 12) (v := .int (μ 0 0)) uw6 0 rfl rfl 1 (by decide) q_669 rfl rfl dX6_undo_12 ?_
    refine v_iconst X (pc := 15) (v := 0) dX6_undo_15 (by decide) ?_
    obtain ⟨q16, e16, h⟩ := ob h
    refine v_callV X (pc := 16) (st1 := []) (w' := (wM x.g a q16)) [.int (μ 0 0), .int 0] [] (c_X6_copies x.l x.g a μ (μ 0 0) 0 e16) rfl rfl cw_X6_copies q_717 q_719 q_21 ⟨by decide, by decide⟩ 0 6 rfl rfl rfl (Fr.all rfl) rfl (Nat.le_of_ble_eq_true rfl) dX6_undo_16 ?_
    refine v_aload_n X (pc := 19) dX6_undo_19 rfl 0 rfl ?_
    refine v_dup X (pc := 20) dX6_undo_20 rfl ?_
    refine v_get X (pc := 21) (v := .int (q16 0 0)) uw6 0 rfl rfl 1 (by decide) q_669 rfl rfl dX6_undo_21 ?_
    refine v_iconst X (pc := 24) (v := 1) dX6_undo_24 (by decide) ?_
    refine v_isub X (pc := 25) dX6_undo_25 ?_
    obtain ⟨m26, em26, h⟩ := lts h
    refine v_put X (pc := 26) (w' := (wM x.g a m26)) uw6 0 rfl rfl 1 (by decide) q_669 rfl tyX6 tyX6_ok nmX6 rfl rfl rfl (Nat.le_of_ble_eq_true rfl) (by rw [← em26]; rfl) dX6_undo_26 ?_
    refine v_aload_n X (pc := 29) dX6_undo_29 rfl 0 rfl ?_
    refine v_get X (pc := 30) (v := .int (m26 0 0)) uw6 0 rfl rfl 1 (by decide) q_669 rfl rfl dX6_undo_30 ?_
    replace h := oi h
    subst h
    exact v_iret X (pc := 33) F dX6_undo_33
  · replace h := hp c h
    refine v_ldc X (pc := 7) (v := (-100005)) q_826 dX6_undo_7 ?_
    replace h := oi h
    subst h
    exact v_iret X (pc := 9) F dX6_undo_9
theorem cw_X6_undo : CwB yX6_undo cX6_undo 1 (Option.some FieldType.int) 0 := ⟨q_878, q_57, by decide, by decide, by decide +kernel⟩
def f_X6_save (μ : Blk) : Option (Int32 × Blk) :=
  (f_X6_copies μ 0 6).bind fun q4 => lt (up q4 0 1 1) fun m9 => (f_X6_people m9 0).bind fun q14 => some (q14, m9)
set_option maxHeartbeats 4000000 in
set_option maxRecDepth 100000 in
theorem c_X6_save (l : Launch) (g : Gl) (a : Nat → Nat) (μ : Blk) {res : Int32 × Blk} (h : f_X6_save μ = some res) : Ok l g yX6_save cX6_save 1 (Option.some FieldType.int) 1 23 [.ref (a 0)] (wM g a μ) (some (.int res.1)) (wM g a res.2) := by
  refine Ok.of RX6 (by decide) rfl (Nat.le_of_ble_eq_true rfl) (fun x hl hg X F => ?_)
  subst hg; subst hl
  rw [f_X6_save] at h
  show V x (wM x.g a μ) [(0, .ref (a 0))] [] 0
  refine v_aload_n X (pc := 0) dX6_save_0 rfl 0 rfl ?_
  refine v_iconst X (pc := 1) (v := 0) dX6_save_1 (by decide) ?_
  refine v_bipush X (pc := 2) (v := 6) dX6_save_2 (by decide) ?_
  obtain ⟨q4, e4, h⟩ := ob h
  refine v_callV X (pc := 4) (st1 := []) (w' := (wM x.g a q4)) [.int 0, .int 6] [] (c_X6_copies x.l x.g a μ 0 6 e4) rfl rfl cw_X6_copies q_717 q_719 q_21 ⟨by decide, by decide⟩ 0 6 rfl rfl rfl (Fr.all rfl) rfl (Nat.le_of_ble_eq_true rfl) dX6_save_4 ?_
  refine v_aload_n X (pc := 7) dX6_save_7 rfl 0 rfl ?_
  refine v_iconst X (pc := 8) (v := 1) dX6_save_8 (by decide) ?_
  obtain ⟨m9, em9, h⟩ := lts h
  refine v_put X (pc := 9) (w' := (wM x.g a m9)) uw6 0 rfl rfl 2 (by decide) q_670 rfl tyX6 tyX6_ok nmX6 rfl (by decide) (by decide) (Nat.le_of_ble_eq_true rfl) (by rw [← em9]; rfl) dX6_save_9 ?_
  refine v_aload_n X (pc := 12) dX6_save_12 rfl 0 rfl ?_
  refine v_iconst X (pc := 13) (v := 0) dX6_save_13 (by decide) ?_
  obtain ⟨q14, e14, h⟩ := ob h
  refine v_callV X (pc := 14) (st1 := [.int q14]) (w' := (wM x.g a m9)) [.int 0] [] (c_X6_people x.l x.g a m9 0 e14) rfl rfl cw_X6_people q_831 q_833 q_38 ⟨by decide, by decide⟩ 0 6 rfl rfl rfl (Fr.all rfl) rfl (Nat.le_of_ble_eq_true rfl) dX6_save_14 ?_
  replace h := oi h
  subst h
  exact v_iret X (pc := 17) F dX6_save_17
theorem cw_X6_save : CwB yX6_save cX6_save 1 (Option.some FieldType.int) 0 := ⟨q_882, q_57, by decide, by decide, by decide +kernel⟩
def f_X6_restore (μ : Blk) : Option (Int32 × Blk) :=
  (if (μ 0 1) = 0 then some ((-100004), μ) else (f_X6_records μ).bind fun q11 => (f_X6_copies q11 6 0).bind fun q18 => (f_X6_people q18 0).bind fun q23 => some (q23, q18))
set_option maxHeartbeats 4000000 in
set_option maxRecDepth 100000 in
theorem c_X6_restore (l : Launch) (g : Gl) (a : Nat → Nat) (μ : Blk) {res : Int32 × Blk} (h : f_X6_restore μ = some res) : Ok l g yX6_restore cX6_restore 1 (Option.some FieldType.int) 2 44 [.ref (a 0)] (wM g a μ) (some (.int res.1)) (wM g a res.2) := by
  refine Ok.of RX6 (by decide) rfl (Nat.le_of_ble_eq_true rfl) (fun x hl hg X F => ?_)
  subst hg; subst hl
  rw [f_X6_restore] at h
  show V x (wM x.g a μ) [(0, .ref (a 0))] [] 0
  refine v_aload_n X (pc := 0) dX6_restore_0 rfl 0 rfl ?_
  refine v_get X (pc := 1) (v := .int (μ 0 1)) uw6 0 rfl rfl 2 (by decide) q_670 rfl rfl dX6_restore_1 ?_
  refine v_ifne X (pc := 4) (tgt := 10) dX6_restore_4 (by decide) (fun c => ?_) (fun c => ?_)
  · replace h := hn c h
    refine v_aload_n X (pc := 10) dX6_restore_10 rfl 0 rfl ?_
    obtain ⟨q11, e11, h⟩ := ob h
    refine v_callV X (pc := 11) (st1 := []) (w' := (wM x.g a q11)) [] [] (c_X6_records x.l x.g a μ e11) rfl rfl cw_X6_records q_713 q_715 q_20 ⟨by decide, by decide⟩ 0 6 rfl rfl rfl (Fr.all rfl) rfl (Nat.le_of_ble_eq_true rfl) dX6_restore_11 ?_
    refine v_aload_n X (pc := 14) dX6_restore_14 rfl 0 rfl ?_
    refine v_bipush X (pc := 15) (v := 6) dX6_restore_15 (by decide) ?_
    refine v_iconst X (pc := 17) (v := 0) dX6_restore_17 (by decide) ?_
    obtain ⟨q18, e18, h⟩ := ob h
    refine v_callV X (pc := 18) (st1 := []) (w' := (wM x.g a q18)) [.int 6, .int 0] [] (c_X6_copies x.l x.g a q11 6 0 e18) rfl rfl cw_X6_copies q_717 q_719 q_21 ⟨by decide, by decide⟩ 0 6 rfl rfl rfl (Fr.all rfl) rfl (Nat.le_of_ble_eq_true rfl) dX6_restore_18 ?_
    refine v_aload_n X (pc := 21) dX6_restore_21 rfl 0 rfl ?_
    refine v_iconst X (pc := 22) (v := 0) dX6_restore_22 (by decide) ?_
    obtain ⟨q23, e23, h⟩ := ob h
    refine v_callV X (pc := 23) (st1 := [.int q23]) (w' := (wM x.g a q18)) [.int 0] [] (c_X6_people x.l x.g a q18 0 e23) rfl rfl cw_X6_people q_831 q_833 q_38 ⟨by decide, by decide⟩ 0 6 rfl rfl rfl (Fr.all rfl) rfl (Nat.le_of_ble_eq_true rfl) dX6_restore_23 ?_
    replace h := oi h
    subst h
    exact v_iret X (pc := 26) F dX6_restore_26
  · replace h := hp c h
    refine v_ldc X (pc := 7) (v := (-100004)) q_739 dX6_restore_7 ?_
    replace h := oi h
    subst h
    exact v_iret X (pc := 9) F dX6_restore_9
theorem cw_X6_restore : CwB yX6_restore cX6_restore 1 (Option.some FieldType.int) 0 := ⟨q_886, q_57, by decide, by decide, by decide +kernel⟩
def f_X6_told_L5 (μ : Blk) (x1 : Int32) (x2 : Bool) : Nat → Int32 → Int32 → Option (Int32)
  | 0, _, _ => none
  | n + 1, x3, x4 =>
    (if ((μ 1) 3) ≤ x4 then some x3 else lt (f_X6_place 0 x4) fun q19 => (if ib q19 2048 = true then (if ((μ 1) (Int32.toNatClampNeg q19)) = x1 then (if x2 = true then (f_X6_counted μ q19 1).bind fun q44 => (f_X6_counted μ q19 0).bind fun q51 => (if ib (q19 + 1) 2048 = true then (if ((μ 1) (Int32.toNatClampNeg (q19 + 1))) = x1 then (if x2 = true then (f_X6_counted μ q19 3).bind fun q97 => (f_X6_counted μ q19 2).bind fun q104 => f_X6_told_L5 μ x1 x2 n ((x3 + (q44 - q51)) + (q97 - q104)) (x4 + 1) else (f_X6_counted μ q19 0).bind fun q115 => (f_X6_counted μ q19 1).bind fun q122 => f_X6_told_L5 μ x1 x2 n ((x3 + (q44 - q51)) + (q115 - q122)) (x4 + 1)) else f_X6_told_L5 μ x1 x2 n (x3 + (q44 - q51)) (x4 + 1)) else none) else (f_X6_counted μ q19 2).bind fun q62 => (f_X6_counted μ q19 3).bind fun q69 => (if ib (q19 + 1) 2048 = true then (if ((μ 1) (Int32.toNatClampNeg (q19 + 1))) = x1 then (if x2 = true then (f_X6_counted μ q19 3).bind fun q97 => (f_X6_counted μ q19 2).bind fun q104 => f_X6_told_L5 μ x1 x2 n ((x3 + (q62 - q69)) + (q97 - q104)) (x4 + 1) else (f_X6_counted μ q19 0).bind fun q115 => (f_X6_counted μ q19 1).bind fun q122 => f_X6_told_L5 μ x1 x2 n ((x3 + (q62 - q69)) + (q115 - q122)) (x4 + 1)) else f_X6_told_L5 μ x1 x2 n (x3 + (q62 - q69)) (x4 + 1)) else none)) else (if ib (q19 + 1) 2048 = true then (if ((μ 1) (Int32.toNatClampNeg (q19 + 1))) = x1 then (if x2 = true then (f_X6_counted μ q19 3).bind fun q97 => (f_X6_counted μ q19 2).bind fun q104 => f_X6_told_L5 μ x1 x2 n (x3 + (q97 - q104)) (x4 + 1) else (f_X6_counted μ q19 0).bind fun q115 => (f_X6_counted μ q19 1).bind fun q122 => f_X6_told_L5 μ x1 x2 n (x3 + (q115 - q122)) (x4 + 1)) else f_X6_told_L5 μ x1 x2 n x3 (x4 + 1)) else none)) else none))
set_option maxHeartbeats 4000000 in
set_option maxRecDepth 100000 in
theorem v_X6_told_L5 {x : Ctx} (X : Cx x RX6 cX6_told 6 1 22) (a : Nat → Nat) (μ : Blk) (x1 : Int32) (x2 : Bool) : ∀ (n : Nat) (x3 : Int32) (x4 : Int32) {res : Int32}, f_X6_told_L5 μ x1 x2 n x3 x4 = some res → Fn x (Option.some FieldType.int) (some (.int res)) (wM x.g a μ) → V x (wM x.g a μ) [(0, .ref (a 0)), (1, .int x1), (2, .int (b2i x2)), (3, .int x3), (4, .int x4)] [] 5 := by
  intro n
  induction n with
  | zero =>
    intro x3 x4 res h F
    rw [f_X6_told_L5] at h
    cases h
  | succ n ih =>
    intro x3 x4 res h F
    rw [f_X6_told_L5] at h
    refine v_iload X (pc := 5) dX6_told_5 4 rfl ?_
    refine v_aload_n X (pc := 7) dX6_told_7 rfl 0 rfl ?_
    refine v_get X (pc := 8) (v := .ref (a 1)) uw6 0 rfl rfl 0 (by decide) q_668 rfl rfl dX6_told_8 ?_
    refine v_iconst X (pc := 11) (v := 3) dX6_told_11 (by decide) ?_
    refine v_iald X (pc := 12) (v := ((μ 1) 3)) 1 rfl (ib_in (by decide)) rfl dX6_told_12 ?_
    refine v_icmpge X (pc := 13) (tgt := 134) dX6_told_13 (by decide) (fun c => ?_) (fun c => ?_)
    · replace h := hp c h
      refine v_iload_n X (pc := 134) dX6_told_134 rfl 3 rfl ?_
      replace h := oi h
      subst h
      exact v_iret X (pc := 135) F dX6_told_135
    · replace h := hn c h
      refine v_iconst X (pc := 16) (v := 0) dX6_told_16 (by decide) ?_
      refine v_iload X (pc := 17) dX6_told_17 4 rfl ?_
      obtain ⟨q19, e19, h⟩ := lts h
      refine v_callS X (pc := 19) (st1 := [.int q19]) (w' := (wM x.g a μ)) [.int 0, .int x4] [] (c_X6_place x.l x.g  0 x4 e19) rfl rfl cw_X6_place q_721 q_722 ⟨by decide, by decide⟩ Fr.nil rfl (Nat.le_of_ble_eq_true rfl) dX6_told_19 ?_
      refine v_istore X (pc := 22) (L2 := [(5, .int q19), (0, .ref (a 0)), (1, .int x1), (2, .int (b2i x2)), (3, .int x3), (4, .int x4)]) dX6_told_22 (by decide) rfl ?_
      refine v_aload_n X (pc := 24) dX6_told_24 rfl 1 rfl ?_
      refine v_get X (pc := 25) (v := .ref (a 1)) uw6 0 rfl rfl 0 (by decide) q_668 rfl rfl dX6_told_25 ?_
      refine v_iload X (pc := 28) dX6_told_28 0 rfl ?_
      obtain ⟨g30, h⟩ := og h
      refine v_iald X (pc := 30) (v := ((μ 1) (Int32.toNatClampNeg q19))) 1 rfl (ib_in g30) rfl dX6_told_30 ?_
      refine v_iload_n X (pc := 31) dX6_told_31 rfl 2 rfl ?_
      refine v_icmpne X (pc := 32) (tgt := 75) dX6_told_32 (by decide) (fun c => ?_) (fun c => ?_)
      · replace h := hn c h
        refine v_aload_n X (pc := 75) dX6_told_75 rfl 1 rfl ?_
        refine v_get X (pc := 76) (v := .ref (a 1)) uw6 0 rfl rfl 0 (by decide) q_668 rfl rfl dX6_told_76 ?_
        refine v_iload X (pc := 79) dX6_told_79 0 rfl ?_
        refine v_iconst X (pc := 81) (v := 1) dX6_told_81 (by decide) ?_
        refine v_iadd X (pc := 82) dX6_told_82 ?_
        obtain ⟨g83, h⟩ := og h
        refine v_iald X (pc := 83) (v := ((μ 1) (Int32.toNatClampNeg (q19 + 1)))) 1 rfl (ib_in g83) rfl dX6_told_83 ?_
        refine v_iload_n X (pc := 84) dX6_told_84 rfl 2 rfl ?_
        refine v_icmpne X (pc := 85) (tgt := 128) dX6_told_85 (by decide) (fun c => ?_) (fun c => ?_)
        · replace h := hn c h
          refine v_iinc X (pc := 128) (v := (x4 + 1)) (L2 := [(4, .int (x4 + 1)), (5, .int q19), (0, .ref (a 0)), (1, .int x1), (2, .int (b2i x2)), (3, .int x3)]) dX6_told_128 5 rfl (by first | rfl | decide) (by decide) rfl ?_
          refine v_goto X (pc := 131) (tgt := 5) dX6_told_131 (by decide) ?_
          refine v_sub (L2 := [(0, .ref (a 0)), (1, .int x1), (2, .int (b2i x2)), (3, .int x3), (4, .int (x4 + 1))]) [2, 3, 4, 5, 0] rfl ?_
          exact ih x3 (x4 + 1) h F
        · replace h := hp c h
          refine v_iload_n X (pc := 88) dX6_told_88 rfl 4 rfl ?_
          refine v_iload_n X (pc := 89) dX6_told_89 rfl 3 rfl ?_
          refine v_ifeqB X (pc := 90) (tgt := 111) dX6_told_90 (by decide) (fun c => ?_) (fun c => ?_)
          · replace h := hn (nbt c) h
            refine v_aload_n X (pc := 111) dX6_told_111 rfl 1 rfl ?_
            refine v_iload X (pc := 112) dX6_told_112 0 rfl ?_
            refine v_iconst X (pc := 114) (v := 0) dX6_told_114 (by decide) ?_
            obtain ⟨q115, e115, h⟩ := ob h
            refine v_callV X (pc := 115) (st1 := [.int q115, .int x3]) (w' := (wM x.g a μ)) [.int q19, .int 0] [.int x3] (c_X6_counted x.l x.g a μ q19 0 e115) rfl rfl cw_X6_counted q_783 q_785 q_31 ⟨by decide, by decide⟩ 0 6 rfl rfl rfl (Fr.all rfl) rfl (Nat.le_of_ble_eq_true rfl) dX6_told_115 ?_
            refine v_aload_n X (pc := 118) dX6_told_118 rfl 1 rfl ?_
            refine v_iload X (pc := 119) dX6_told_119 0 rfl ?_
            refine v_iconst X (pc := 121) (v := 1) dX6_told_121 (by decide) ?_
            obtain ⟨q122, e122, h⟩ := ob h
            refine v_callV X (pc := 122) (st1 := [.int q122, .int q115, .int x3]) (w' := (wM x.g a μ)) [.int q19, .int 1] [.int q115, .int x3] (c_X6_counted x.l x.g a μ q19 1 e122) rfl rfl cw_X6_counted q_783 q_785 q_31 ⟨by decide, by decide⟩ 0 6 rfl rfl rfl (Fr.all rfl) rfl (Nat.le_of_ble_eq_true rfl) dX6_told_122 ?_
            refine v_isub X (pc := 125) dX6_told_125 ?_
            refine v_iadd X (pc := 126) dX6_told_126 ?_
            refine v_istore_n X (pc := 127) (L2 := [(3, .int (x3 + (q115 - q122))), (5, .int q19), (0, .ref (a 0)), (1, .int x1), (2, .int (b2i x2)), (4, .int x4)]) dX6_told_127 rfl (by decide) rfl ?_
            refine v_iinc X (pc := 128) (v := (x4 + 1)) (L2 := [(4, .int (x4 + 1)), (3, .int (x3 + (q115 - q122))), (5, .int q19), (0, .ref (a 0)), (1, .int x1), (2, .int (b2i x2))]) dX6_told_128 5 rfl (by first | rfl | decide) (by decide) rfl ?_
            refine v_goto X (pc := 131) (tgt := 5) dX6_told_131 (by decide) ?_
            refine v_sub (L2 := [(0, .ref (a 0)), (1, .int x1), (2, .int (b2i x2)), (3, .int (x3 + (q115 - q122))), (4, .int (x4 + 1))]) [3, 4, 5, 1, 0] rfl ?_
            exact ih (x3 + (q115 - q122)) (x4 + 1) h F
          · replace h := hp c h
            refine v_aload_n X (pc := 93) dX6_told_93 rfl 1 rfl ?_
            refine v_iload X (pc := 94) dX6_told_94 0 rfl ?_
            refine v_iconst X (pc := 96) (v := 3) dX6_told_96 (by decide) ?_
            obtain ⟨q97, e97, h⟩ := ob h
            refine v_callV X (pc := 97) (st1 := [.int q97, .int x3]) (w' := (wM x.g a μ)) [.int q19, .int 3] [.int x3] (c_X6_counted x.l x.g a μ q19 3 e97) rfl rfl cw_X6_counted q_783 q_785 q_31 ⟨by decide, by decide⟩ 0 6 rfl rfl rfl (Fr.all rfl) rfl (Nat.le_of_ble_eq_true rfl) dX6_told_97 ?_
            refine v_aload_n X (pc := 100) dX6_told_100 rfl 1 rfl ?_
            refine v_iload X (pc := 101) dX6_told_101 0 rfl ?_
            refine v_iconst X (pc := 103) (v := 2) dX6_told_103 (by decide) ?_
            obtain ⟨q104, e104, h⟩ := ob h
            refine v_callV X (pc := 104) (st1 := [.int q104, .int q97, .int x3]) (w' := (wM x.g a μ)) [.int q19, .int 2] [.int q97, .int x3] (c_X6_counted x.l x.g a μ q19 2 e104) rfl rfl cw_X6_counted q_783 q_785 q_31 ⟨by decide, by decide⟩ 0 6 rfl rfl rfl (Fr.all rfl) rfl (Nat.le_of_ble_eq_true rfl) dX6_told_104 ?_
            refine v_isub X (pc := 107) dX6_told_107 ?_
            refine v_goto X (pc := 108) (tgt := 126) dX6_told_108 (by decide) ?_
            refine v_iadd X (pc := 126) dX6_told_126 ?_
            refine v_istore_n X (pc := 127) (L2 := [(3, .int (x3 + (q97 - q104))), (5, .int q19), (0, .ref (a 0)), (1, .int x1), (2, .int (b2i x2)), (4, .int x4)]) dX6_told_127 rfl (by decide) rfl ?_
            refine v_iinc X (pc := 128) (v := (x4 + 1)) (L2 := [(4, .int (x4 + 1)), (3, .int (x3 + (q97 - q104))), (5, .int q19), (0, .ref (a 0)), (1, .int x1), (2, .int (b2i x2))]) dX6_told_128 5 rfl (by first | rfl | decide) (by decide) rfl ?_
            refine v_goto X (pc := 131) (tgt := 5) dX6_told_131 (by decide) ?_
            refine v_sub (L2 := [(0, .ref (a 0)), (1, .int x1), (2, .int (b2i x2)), (3, .int (x3 + (q97 - q104))), (4, .int (x4 + 1))]) [3, 4, 5, 1, 0] rfl ?_
            exact ih (x3 + (q97 - q104)) (x4 + 1) h F
      · replace h := hp c h
        refine v_iload_n X (pc := 35) dX6_told_35 rfl 4 rfl ?_
        refine v_iload_n X (pc := 36) dX6_told_36 rfl 3 rfl ?_
        refine v_ifeqB X (pc := 37) (tgt := 58) dX6_told_37 (by decide) (fun c => ?_) (fun c => ?_)
        · replace h := hn (nbt c) h
          refine v_aload_n X (pc := 58) dX6_told_58 rfl 1 rfl ?_
          refine v_iload X (pc := 59) dX6_told_59 0 rfl ?_
          refine v_iconst X (pc := 61) (v := 2) dX6_told_61 (by decide) ?_
          obtain ⟨q62, e62, h⟩ := ob h
          refine v_callV X (pc := 62) (st1 := [.int q62, .int x3]) (w' := (wM x.g a μ)) [.int q19, .int 2] [.int x3] (c_X6_counted x.l x.g a μ q19 2 e62) rfl rfl cw_X6_counted q_783 q_785 q_31 ⟨by decide, by decide⟩ 0 6 rfl rfl rfl (Fr.all rfl) rfl (Nat.le_of_ble_eq_true rfl) dX6_told_62 ?_
          refine v_aload_n X (pc := 65) dX6_told_65 rfl 1 rfl ?_
          refine v_iload X (pc := 66) dX6_told_66 0 rfl ?_
          refine v_iconst X (pc := 68) (v := 3) dX6_told_68 (by decide) ?_
          obtain ⟨q69, e69, h⟩ := ob h
          refine v_callV X (pc := 69) (st1 := [.int q69, .int q62, .int x3]) (w' := (wM x.g a μ)) [.int q19, .int 3] [.int q62, .int x3] (c_X6_counted x.l x.g a μ q19 3 e69) rfl rfl cw_X6_counted q_783 q_785 q_31 ⟨by decide, by decide⟩ 0 6 rfl rfl rfl (Fr.all rfl) rfl (Nat.le_of_ble_eq_true rfl) dX6_told_69 ?_
          refine v_isub X (pc := 72) dX6_told_72 ?_
          refine v_iadd X (pc := 73) dX6_told_73 ?_
          refine v_istore_n X (pc := 74) (L2 := [(3, .int (x3 + (q62 - q69))), (5, .int q19), (0, .ref (a 0)), (1, .int x1), (2, .int (b2i x2)), (4, .int x4)]) dX6_told_74 rfl (by decide) rfl ?_
          refine v_aload_n X (pc := 75) dX6_told_75 rfl 2 rfl ?_
          refine v_get X (pc := 76) (v := .ref (a 1)) uw6 0 rfl rfl 0 (by decide) q_668 rfl rfl dX6_told_76 ?_
          refine v_iload X (pc := 79) dX6_told_79 1 rfl ?_
          refine v_iconst X (pc := 81) (v := 1) dX6_told_81 (by decide) ?_
          refine v_iadd X (pc := 82) dX6_told_82 ?_
          obtain ⟨g83, h⟩ := og h
          refine v_iald X (pc := 83) (v := ((μ 1) (Int32.toNatClampNeg (q19 + 1)))) 1 rfl (ib_in g83) rfl dX6_told_83 ?_
          refine v_iload_n X (pc := 84) dX6_told_84 rfl 3 rfl ?_
          refine v_icmpne X (pc := 85) (tgt := 128) dX6_told_85 (by decide) (fun c => ?_) (fun c => ?_)
          · replace h := hn c h
            refine v_iinc X (pc := 128) (v := (x4 + 1)) (L2 := [(4, .int (x4 + 1)), (3, .int (x3 + (q62 - q69))), (5, .int q19), (0, .ref (a 0)), (1, .int x1), (2, .int (b2i x2))]) dX6_told_128 5 rfl (by first | rfl | decide) (by decide) rfl ?_
            refine v_goto X (pc := 131) (tgt := 5) dX6_told_131 (by decide) ?_
            refine v_sub (L2 := [(0, .ref (a 0)), (1, .int x1), (2, .int (b2i x2)), (3, .int (x3 + (q62 - q69))), (4, .int (x4 + 1))]) [3, 4, 5, 1, 0] rfl ?_
            exact ih (x3 + (q62 - q69)) (x4 + 1) h F
          · replace h := hp c h
            refine v_iload_n X (pc := 88) dX6_told_88 rfl 0 rfl ?_
            refine v_iload_n X (pc := 89) dX6_told_89 rfl 4 rfl ?_
            refine v_ifeqB X (pc := 90) (tgt := 111) dX6_told_90 (by decide) (fun c => ?_) (fun c => ?_)
            · replace h := hn (nbt c) h
              refine v_aload_n X (pc := 111) dX6_told_111 rfl 2 rfl ?_
              refine v_iload X (pc := 112) dX6_told_112 1 rfl ?_
              refine v_iconst X (pc := 114) (v := 0) dX6_told_114 (by decide) ?_
              obtain ⟨q115, e115, h⟩ := ob h
              refine v_callV X (pc := 115) (st1 := [.int q115, .int (x3 + (q62 - q69))]) (w' := (wM x.g a μ)) [.int q19, .int 0] [.int (x3 + (q62 - q69))] (c_X6_counted x.l x.g a μ q19 0 e115) rfl rfl cw_X6_counted q_783 q_785 q_31 ⟨by decide, by decide⟩ 0 6 rfl rfl rfl (Fr.all rfl) rfl (Nat.le_of_ble_eq_true rfl) dX6_told_115 ?_
              refine v_aload_n X (pc := 118) dX6_told_118 rfl 2 rfl ?_
              refine v_iload X (pc := 119) dX6_told_119 1 rfl ?_
              refine v_iconst X (pc := 121) (v := 1) dX6_told_121 (by decide) ?_
              obtain ⟨q122, e122, h⟩ := ob h
              refine v_callV X (pc := 122) (st1 := [.int q122, .int q115, .int (x3 + (q62 - q69))]) (w' := (wM x.g a μ)) [.int q19, .int 1] [.int q115, .int (x3 + (q62 - q69))] (c_X6_counted x.l x.g a μ q19 1 e122) rfl rfl cw_X6_counted q_783 q_785 q_31 ⟨by decide, by decide⟩ 0 6 rfl rfl rfl (Fr.all rfl) rfl (Nat.le_of_ble_eq_true rfl) dX6_told_122 ?_
              refine v_isub X (pc := 125) dX6_told_125 ?_
              refine v_iadd X (pc := 126) dX6_told_126 ?_
              refine v_istore_n X (pc := 127) (L2 := [(3, .int ((x3 + (q62 - q69)) + (q115 - q122))), (5, .int q19), (0, .ref (a 0)), (1, .int x1), (2, .int (b2i x2)), (4, .int x4)]) dX6_told_127 rfl (by decide) rfl ?_
              refine v_iinc X (pc := 128) (v := (x4 + 1)) (L2 := [(4, .int (x4 + 1)), (3, .int ((x3 + (q62 - q69)) + (q115 - q122))), (5, .int q19), (0, .ref (a 0)), (1, .int x1), (2, .int (b2i x2))]) dX6_told_128 5 rfl (by first | rfl | decide) (by decide) rfl ?_
              refine v_goto X (pc := 131) (tgt := 5) dX6_told_131 (by decide) ?_
              refine v_sub (L2 := [(0, .ref (a 0)), (1, .int x1), (2, .int (b2i x2)), (3, .int ((x3 + (q62 - q69)) + (q115 - q122))), (4, .int (x4 + 1))]) [3, 4, 5, 1, 0] rfl ?_
              exact ih ((x3 + (q62 - q69)) + (q115 - q122)) (x4 + 1) h F
            · replace h := hp c h
              refine v_aload_n X (pc := 93) dX6_told_93 rfl 2 rfl ?_
              refine v_iload X (pc := 94) dX6_told_94 1 rfl ?_
              refine v_iconst X (pc := 96) (v := 3) dX6_told_96 (by decide) ?_
              obtain ⟨q97, e97, h⟩ := ob h
              refine v_callV X (pc := 97) (st1 := [.int q97, .int (x3 + (q62 - q69))]) (w' := (wM x.g a μ)) [.int q19, .int 3] [.int (x3 + (q62 - q69))] (c_X6_counted x.l x.g a μ q19 3 e97) rfl rfl cw_X6_counted q_783 q_785 q_31 ⟨by decide, by decide⟩ 0 6 rfl rfl rfl (Fr.all rfl) rfl (Nat.le_of_ble_eq_true rfl) dX6_told_97 ?_
              refine v_aload_n X (pc := 100) dX6_told_100 rfl 2 rfl ?_
              refine v_iload X (pc := 101) dX6_told_101 1 rfl ?_
              refine v_iconst X (pc := 103) (v := 2) dX6_told_103 (by decide) ?_
              obtain ⟨q104, e104, h⟩ := ob h
              refine v_callV X (pc := 104) (st1 := [.int q104, .int q97, .int (x3 + (q62 - q69))]) (w' := (wM x.g a μ)) [.int q19, .int 2] [.int q97, .int (x3 + (q62 - q69))] (c_X6_counted x.l x.g a μ q19 2 e104) rfl rfl cw_X6_counted q_783 q_785 q_31 ⟨by decide, by decide⟩ 0 6 rfl rfl rfl (Fr.all rfl) rfl (Nat.le_of_ble_eq_true rfl) dX6_told_104 ?_
              refine v_isub X (pc := 107) dX6_told_107 ?_
              refine v_goto X (pc := 108) (tgt := 126) dX6_told_108 (by decide) ?_
              refine v_iadd X (pc := 126) dX6_told_126 ?_
              refine v_istore_n X (pc := 127) (L2 := [(3, .int ((x3 + (q62 - q69)) + (q97 - q104))), (5, .int q19), (0, .ref (a 0)), (1, .int x1), (2, .int (b2i x2)), (4, .int x4)]) dX6_told_127 rfl (by decide) rfl ?_
              refine v_iinc X (pc := 128) (v := (x4 + 1)) (L2 := [(4, .int (x4 + 1)), (3, .int ((x3 + (q62 - q69)) + (q97 - q104))), (5, .int q19), (0, .ref (a 0)), (1, .int x1), (2, .int (b2i x2))]) dX6_told_128 5 rfl (by first | rfl | decide) (by decide) rfl ?_
              refine v_goto X (pc := 131) (tgt := 5) dX6_told_131 (by decide) ?_
              refine v_sub (L2 := [(0, .ref (a 0)), (1, .int x1), (2, .int (b2i x2)), (3, .int ((x3 + (q62 - q69)) + (q97 - q104))), (4, .int (x4 + 1))]) [3, 4, 5, 1, 0] rfl ?_
              exact ih ((x3 + (q62 - q69)) + (q97 - q104)) (x4 + 1) h F
        · replace h := hp c h
          refine v_aload_n X (pc := 40) dX6_told_40 rfl 1 rfl ?_
          refine v_iload X (pc := 41) dX6_told_41 0 rfl ?_
          refine v_iconst X (pc := 43) (v := 1) dX6_told_43 (by decide) ?_
          obtain ⟨q44, e44, h⟩ := ob h
          refine v_callV X (pc := 44) (st1 := [.int q44, .int x3]) (w' := (wM x.g a μ)) [.int q19, .int 1] [.int x3] (c_X6_counted x.l x.g a μ q19 1 e44) rfl rfl cw_X6_counted q_783 q_785 q_31 ⟨by decide, by decide⟩ 0 6 rfl rfl rfl (Fr.all rfl) rfl (Nat.le_of_ble_eq_true rfl) dX6_told_44 ?_
          refine v_aload_n X (pc := 47) dX6_told_47 rfl 1 rfl ?_
          refine v_iload X (pc := 48) dX6_told_48 0 rfl ?_
          refine v_iconst X (pc := 50) (v := 0) dX6_told_50 (by decide) ?_
          obtain ⟨q51, e51, h⟩ := ob h
          refine v_callV X (pc := 51) (st1 := [.int q51, .int q44, .int x3]) (w' := (wM x.g a μ)) [.int q19, .int 0] [.int q44, .int x3] (c_X6_counted x.l x.g a μ q19 0 e51) rfl rfl cw_X6_counted q_783 q_785 q_31 ⟨by decide, by decide⟩ 0 6 rfl rfl rfl (Fr.all rfl) rfl (Nat.le_of_ble_eq_true rfl) dX6_told_51 ?_
          refine v_isub X (pc := 54) dX6_told_54 ?_
          refine v_goto X (pc := 55) (tgt := 73) dX6_told_55 (by decide) ?_
          refine v_iadd X (pc := 73) dX6_told_73 ?_
          refine v_istore_n X (pc := 74) (L2 := [(3, .int (x3 + (q44 - q51))), (5, .int q19), (0, .ref (a 0)), (1, .int x1), (2, .int (b2i x2)), (4, .int x4)]) dX6_told_74 rfl (by decide) rfl ?_
          refine v_aload_n X (pc := 75) dX6_told_75 rfl 2 rfl ?_
          refine v_get X (pc := 76) (v := .ref (a 1)) uw6 0 rfl rfl 0 (by decide) q_668 rfl rfl dX6_told_76 ?_
          refine v_iload X (pc := 79) dX6_told_79 1 rfl ?_
          refine v_iconst X (pc := 81) (v := 1) dX6_told_81 (by decide) ?_
          refine v_iadd X (pc := 82) dX6_told_82 ?_
          obtain ⟨g83, h⟩ := og h
          refine v_iald X (pc := 83) (v := ((μ 1) (Int32.toNatClampNeg (q19 + 1)))) 1 rfl (ib_in g83) rfl dX6_told_83 ?_
          refine v_iload_n X (pc := 84) dX6_told_84 rfl 3 rfl ?_
          refine v_icmpne X (pc := 85) (tgt := 128) dX6_told_85 (by decide) (fun c => ?_) (fun c => ?_)
          · replace h := hn c h
            refine v_iinc X (pc := 128) (v := (x4 + 1)) (L2 := [(4, .int (x4 + 1)), (3, .int (x3 + (q44 - q51))), (5, .int q19), (0, .ref (a 0)), (1, .int x1), (2, .int (b2i x2))]) dX6_told_128 5 rfl (by first | rfl | decide) (by decide) rfl ?_
            refine v_goto X (pc := 131) (tgt := 5) dX6_told_131 (by decide) ?_
            refine v_sub (L2 := [(0, .ref (a 0)), (1, .int x1), (2, .int (b2i x2)), (3, .int (x3 + (q44 - q51))), (4, .int (x4 + 1))]) [3, 4, 5, 1, 0] rfl ?_
            exact ih (x3 + (q44 - q51)) (x4 + 1) h F
          · replace h := hp c h
            refine v_iload_n X (pc := 88) dX6_told_88 rfl 0 rfl ?_
            refine v_iload_n X (pc := 89) dX6_told_89 rfl 4 rfl ?_
            refine v_ifeqB X (pc := 90) (tgt := 111) dX6_told_90 (by decide) (fun c => ?_) (fun c => ?_)
            · replace h := hn (nbt c) h
              refine v_aload_n X (pc := 111) dX6_told_111 rfl 2 rfl ?_
              refine v_iload X (pc := 112) dX6_told_112 1 rfl ?_
              refine v_iconst X (pc := 114) (v := 0) dX6_told_114 (by decide) ?_
              obtain ⟨q115, e115, h⟩ := ob h
              refine v_callV X (pc := 115) (st1 := [.int q115, .int (x3 + (q44 - q51))]) (w' := (wM x.g a μ)) [.int q19, .int 0] [.int (x3 + (q44 - q51))] (c_X6_counted x.l x.g a μ q19 0 e115) rfl rfl cw_X6_counted q_783 q_785 q_31 ⟨by decide, by decide⟩ 0 6 rfl rfl rfl (Fr.all rfl) rfl (Nat.le_of_ble_eq_true rfl) dX6_told_115 ?_
              refine v_aload_n X (pc := 118) dX6_told_118 rfl 2 rfl ?_
              refine v_iload X (pc := 119) dX6_told_119 1 rfl ?_
              refine v_iconst X (pc := 121) (v := 1) dX6_told_121 (by decide) ?_
              obtain ⟨q122, e122, h⟩ := ob h
              refine v_callV X (pc := 122) (st1 := [.int q122, .int q115, .int (x3 + (q44 - q51))]) (w' := (wM x.g a μ)) [.int q19, .int 1] [.int q115, .int (x3 + (q44 - q51))] (c_X6_counted x.l x.g a μ q19 1 e122) rfl rfl cw_X6_counted q_783 q_785 q_31 ⟨by decide, by decide⟩ 0 6 rfl rfl rfl (Fr.all rfl) rfl (Nat.le_of_ble_eq_true rfl) dX6_told_122 ?_
              refine v_isub X (pc := 125) dX6_told_125 ?_
              refine v_iadd X (pc := 126) dX6_told_126 ?_
              refine v_istore_n X (pc := 127) (L2 := [(3, .int ((x3 + (q44 - q51)) + (q115 - q122))), (5, .int q19), (0, .ref (a 0)), (1, .int x1), (2, .int (b2i x2)), (4, .int x4)]) dX6_told_127 rfl (by decide) rfl ?_
              refine v_iinc X (pc := 128) (v := (x4 + 1)) (L2 := [(4, .int (x4 + 1)), (3, .int ((x3 + (q44 - q51)) + (q115 - q122))), (5, .int q19), (0, .ref (a 0)), (1, .int x1), (2, .int (b2i x2))]) dX6_told_128 5 rfl (by first | rfl | decide) (by decide) rfl ?_
              refine v_goto X (pc := 131) (tgt := 5) dX6_told_131 (by decide) ?_
              refine v_sub (L2 := [(0, .ref (a 0)), (1, .int x1), (2, .int (b2i x2)), (3, .int ((x3 + (q44 - q51)) + (q115 - q122))), (4, .int (x4 + 1))]) [3, 4, 5, 1, 0] rfl ?_
              exact ih ((x3 + (q44 - q51)) + (q115 - q122)) (x4 + 1) h F
            · replace h := hp c h
              refine v_aload_n X (pc := 93) dX6_told_93 rfl 2 rfl ?_
              refine v_iload X (pc := 94) dX6_told_94 1 rfl ?_
              refine v_iconst X (pc := 96) (v := 3) dX6_told_96 (by decide) ?_
              obtain ⟨q97, e97, h⟩ := ob h
              refine v_callV X (pc := 97) (st1 := [.int q97, .int (x3 + (q44 - q51))]) (w' := (wM x.g a μ)) [.int q19, .int 3] [.int (x3 + (q44 - q51))] (c_X6_counted x.l x.g a μ q19 3 e97) rfl rfl cw_X6_counted q_783 q_785 q_31 ⟨by decide, by decide⟩ 0 6 rfl rfl rfl (Fr.all rfl) rfl (Nat.le_of_ble_eq_true rfl) dX6_told_97 ?_
              refine v_aload_n X (pc := 100) dX6_told_100 rfl 2 rfl ?_
              refine v_iload X (pc := 101) dX6_told_101 1 rfl ?_
              refine v_iconst X (pc := 103) (v := 2) dX6_told_103 (by decide) ?_
              obtain ⟨q104, e104, h⟩ := ob h
              refine v_callV X (pc := 104) (st1 := [.int q104, .int q97, .int (x3 + (q44 - q51))]) (w' := (wM x.g a μ)) [.int q19, .int 2] [.int q97, .int (x3 + (q44 - q51))] (c_X6_counted x.l x.g a μ q19 2 e104) rfl rfl cw_X6_counted q_783 q_785 q_31 ⟨by decide, by decide⟩ 0 6 rfl rfl rfl (Fr.all rfl) rfl (Nat.le_of_ble_eq_true rfl) dX6_told_104 ?_
              refine v_isub X (pc := 107) dX6_told_107 ?_
              refine v_goto X (pc := 108) (tgt := 126) dX6_told_108 (by decide) ?_
              refine v_iadd X (pc := 126) dX6_told_126 ?_
              refine v_istore_n X (pc := 127) (L2 := [(3, .int ((x3 + (q44 - q51)) + (q97 - q104))), (5, .int q19), (0, .ref (a 0)), (1, .int x1), (2, .int (b2i x2)), (4, .int x4)]) dX6_told_127 rfl (by decide) rfl ?_
              refine v_iinc X (pc := 128) (v := (x4 + 1)) (L2 := [(4, .int (x4 + 1)), (3, .int ((x3 + (q44 - q51)) + (q97 - q104))), (5, .int q19), (0, .ref (a 0)), (1, .int x1), (2, .int (b2i x2))]) dX6_told_128 5 rfl (by first | rfl | decide) (by decide) rfl ?_
              refine v_goto X (pc := 131) (tgt := 5) dX6_told_131 (by decide) ?_
              refine v_sub (L2 := [(0, .ref (a 0)), (1, .int x1), (2, .int (b2i x2)), (3, .int ((x3 + (q44 - q51)) + (q97 - q104))), (4, .int (x4 + 1))]) [3, 4, 5, 1, 0] rfl ?_
              exact ih ((x3 + (q44 - q51)) + (q97 - q104)) (x4 + 1) h F
def f_X6_told (μ : Blk) (x1 : Int32) (x2 : Bool) : Option (Int32) :=
  f_X6_told_L5 μ x1 x2 FU 0 0
set_option maxHeartbeats 4000000 in
set_option maxRecDepth 100000 in
theorem c_X6_told (l : Launch) (g : Gl) (a : Nat → Nat) (μ : Blk) (x1 : Int32) (x2 : Bool) {res : Int32} (h : f_X6_told μ x1 x2 = some res) : Ok l g yX6_told cX6_told 6 (Option.some FieldType.int) 1 22 [.ref (a 0), .int x1, .int (b2i x2)] (wM g a μ) (some (.int res)) (wM g a μ) := by
  refine Ok.of RX6 (by decide) rfl (Nat.le_of_ble_eq_true rfl) (fun x hl hg X F => ?_)
  subst hg; subst hl
  rw [f_X6_told] at h
  show V x (wM x.g a μ) [(0, .ref (a 0)), (1, .int x1), (2, .int (b2i x2))] [] 0
  refine v_iconst X (pc := 0) (v := 0) dX6_told_0 (by decide) ?_
  refine v_istore_n X (pc := 1) (L2 := [(3, .int 0), (0, .ref (a 0)), (1, .int x1), (2, .int (b2i x2))]) dX6_told_1 rfl (by decide) rfl ?_
  refine v_iconst X (pc := 2) (v := 0) dX6_told_2 (by decide) ?_
  refine v_istore X (pc := 3) (L2 := [(4, .int 0), (3, .int 0), (0, .ref (a 0)), (1, .int x1), (2, .int (b2i x2))]) dX6_told_3 (by decide) rfl ?_
  refine v_sub (L2 := [(0, .ref (a 0)), (1, .int x1), (2, .int (b2i x2)), (3, .int 0), (4, .int 0)]) [2, 3, 4, 1, 0] rfl ?_
  exact v_X6_told_L5 X a μ x1 x2 FU 0 0 h F
theorem cw_X6_told : CwB yX6_told cX6_told 6 (Option.some FieldType.int) 2 := ⟨q_894, q_57, by decide, by decide, by decide +kernel⟩
def f_X6_stilesOf_L4 (μ : Blk) (x1 : Int32) : Nat → Int32 → Int32 → Option (Int32)
  | 0, _, _ => none
  | n + 1, x2, x3 =>
    (if ((μ 1) 3) ≤ x3 then some x2 else lt (f_X6_place 0 x3) fun q21 => (if ib q21 2048 = true then (if ((μ 1) (Int32.toNatClampNeg q21)) = x1 then f_X6_stilesOf_L4 μ x1 n (x2 + 1) (x3 + 1) else lt (f_X6_place 0 x3) fun q35 => (if ib (q35 + 1) 2048 = true then (if ((μ 1) (Int32.toNatClampNeg (q35 + 1))) = x1 then f_X6_stilesOf_L4 μ x1 n (x2 + 1) (x3 + 1) else f_X6_stilesOf_L4 μ x1 n (x2 + 0) (x3 + 1)) else none)) else none))
set_option maxHeartbeats 4000000 in
set_option maxRecDepth 100000 in
theorem v_X6_stilesOf_L4 {x : Ctx} (X : Cx x RX6 cX6_stilesOf 4 1 21) (a : Nat → Nat) (μ : Blk) (x1 : Int32) : ∀ (n : Nat) (x2 : Int32) (x3 : Int32) {res : Int32}, f_X6_stilesOf_L4 μ x1 n x2 x3 = some res → Fn x (Option.some FieldType.int) (some (.int res)) (wM x.g a μ) → V x (wM x.g a μ) [(0, .ref (a 0)), (1, .int x1), (2, .int x2), (3, .int x3)] [] 4 := by
  intro n
  induction n with
  | zero =>
    intro x2 x3 res h F
    rw [f_X6_stilesOf_L4] at h
    cases h
  | succ n ih =>
    intro x2 x3 res h F
    rw [f_X6_stilesOf_L4] at h
    refine v_iload_n X (pc := 4) dX6_stilesOf_4 rfl 3 rfl ?_
    refine v_aload_n X (pc := 5) dX6_stilesOf_5 rfl 0 rfl ?_
    refine v_get X (pc := 6) (v := .ref (a 1)) uw6 0 rfl rfl 0 (by decide) q_668 rfl rfl dX6_stilesOf_6 ?_
    refine v_iconst X (pc := 9) (v := 3) dX6_stilesOf_9 (by decide) ?_
    refine v_iald X (pc := 10) (v := ((μ 1) 3)) 1 rfl (ib_in (by decide)) rfl dX6_stilesOf_10 ?_
    refine v_icmpge X (pc := 11) (tgt := 58) dX6_stilesOf_11 (by decide) (fun c => ?_) (fun c => ?_)
    · replace h := hp c h
      refine v_iload_n X (pc := 58) dX6_stilesOf_58 rfl 2 rfl ?_
      replace h := oi h
      subst h
      exact v_iret X (pc := 59) F dX6_stilesOf_59
    · replace h := hn c h
      refine v_iload_n X (pc := 14) dX6_stilesOf_14 rfl 2 rfl ?_
      refine v_aload_n X (pc := 15) dX6_stilesOf_15 rfl 0 rfl ?_
      refine v_get X (pc := 16) (v := .ref (a 1)) uw6 0 rfl rfl 0 (by decide) q_668 rfl rfl dX6_stilesOf_16 ?_
      refine v_iconst X (pc := 19) (v := 0) dX6_stilesOf_19 (by decide) ?_
      refine v_iload_n X (pc := 20) dX6_stilesOf_20 rfl 3 rfl ?_
      obtain ⟨q21, e21, h⟩ := lts h
      refine v_callS X (pc := 21) (st1 := [.int q21, .ref (a 1), .int x2]) (w' := (wM x.g a μ)) [.int 0, .int x3] [.ref (a 1), .int x2] (c_X6_place x.l x.g  0 x3 e21) rfl rfl cw_X6_place q_721 q_722 ⟨by decide, by decide⟩ Fr.nil rfl (Nat.le_of_ble_eq_true rfl) dX6_stilesOf_21 ?_
      obtain ⟨g24, h⟩ := og h
      refine v_iald X (pc := 24) (v := ((μ 1) (Int32.toNatClampNeg q21))) 1 rfl (ib_in g24) rfl dX6_stilesOf_24 ?_
      refine v_iload_n X (pc := 25) dX6_stilesOf_25 rfl 1 rfl ?_
      refine v_icmpeq X (pc := 26) (tgt := 45) dX6_stilesOf_26 (by decide) (fun c => ?_) (fun c => ?_)
      · replace h := hp c h
        refine v_iconst X (pc := 45) (v := 1) dX6_stilesOf_45 (by decide) ?_
        refine v_goto X (pc := 46) (tgt := 50) dX6_stilesOf_46 (by decide) ?_
        refine v_iadd X (pc := 50) dX6_stilesOf_50 ?_
        refine v_istore_n X (pc := 51) (L2 := [(2, .int (x2 + 1)), (0, .ref (a 0)), (1, .int x1), (3, .int x3)]) dX6_stilesOf_51 rfl (by decide) rfl ?_
        refine v_iinc X (pc := 52) (v := (x3 + 1)) (L2 := [(3, .int (x3 + 1)), (2, .int (x2 + 1)), (0, .ref (a 0)), (1, .int x1)]) dX6_stilesOf_52 3 rfl (by first | rfl | decide) (by decide) rfl ?_
        refine v_goto X (pc := 55) (tgt := 4) dX6_stilesOf_55 (by decide) ?_
        refine v_sub (L2 := [(0, .ref (a 0)), (1, .int x1), (2, .int (x2 + 1)), (3, .int (x3 + 1))]) [2, 3, 1, 0] rfl ?_
        exact ih (x2 + 1) (x3 + 1) h F
      · replace h := hn c h
        refine v_aload_n X (pc := 29) dX6_stilesOf_29 rfl 0 rfl ?_
        refine v_get X (pc := 30) (v := .ref (a 1)) uw6 0 rfl rfl 0 (by decide) q_668 rfl rfl dX6_stilesOf_30 ?_
        refine v_iconst X (pc := 33) (v := 0) dX6_stilesOf_33 (by decide) ?_
        refine v_iload_n X (pc := 34) dX6_stilesOf_34 rfl 3 rfl ?_
        obtain ⟨q35, e35, h⟩ := lts h
        refine v_callS X (pc := 35) (st1 := [.int q35, .ref (a 1), .int x2]) (w' := (wM x.g a μ)) [.int 0, .int x3] [.ref (a 1), .int x2] (c_X6_place x.l x.g  0 x3 e35) rfl rfl cw_X6_place q_721 q_722 ⟨by decide, by decide⟩ Fr.nil rfl (Nat.le_of_ble_eq_true rfl) dX6_stilesOf_35 ?_
        refine v_iconst X (pc := 38) (v := 1) dX6_stilesOf_38 (by decide) ?_
        refine v_iadd X (pc := 39) dX6_stilesOf_39 ?_
        obtain ⟨g40, h⟩ := og h
        refine v_iald X (pc := 40) (v := ((μ 1) (Int32.toNatClampNeg (q35 + 1)))) 1 rfl (ib_in g40) rfl dX6_stilesOf_40 ?_
        refine v_iload_n X (pc := 41) dX6_stilesOf_41 rfl 1 rfl ?_
        refine v_icmpne X (pc := 42) (tgt := 49) dX6_stilesOf_42 (by decide) (fun c => ?_) (fun c => ?_)
        · replace h := hn c h
          refine v_iconst X (pc := 49) (v := 0) dX6_stilesOf_49 (by decide) ?_
          refine v_iadd X (pc := 50) dX6_stilesOf_50 ?_
          refine v_istore_n X (pc := 51) (L2 := [(2, .int (x2 + 0)), (0, .ref (a 0)), (1, .int x1), (3, .int x3)]) dX6_stilesOf_51 rfl (by decide) rfl ?_
          refine v_iinc X (pc := 52) (v := (x3 + 1)) (L2 := [(3, .int (x3 + 1)), (2, .int (x2 + 0)), (0, .ref (a 0)), (1, .int x1)]) dX6_stilesOf_52 3 rfl (by first | rfl | decide) (by decide) rfl ?_
          refine v_goto X (pc := 55) (tgt := 4) dX6_stilesOf_55 (by decide) ?_
          refine v_sub (L2 := [(0, .ref (a 0)), (1, .int x1), (2, .int (x2 + 0)), (3, .int (x3 + 1))]) [2, 3, 1, 0] rfl ?_
          exact ih (x2 + 0) (x3 + 1) h F
        · replace h := hp c h
          refine v_iconst X (pc := 45) (v := 1) dX6_stilesOf_45 (by decide) ?_
          refine v_goto X (pc := 46) (tgt := 50) dX6_stilesOf_46 (by decide) ?_
          refine v_iadd X (pc := 50) dX6_stilesOf_50 ?_
          refine v_istore_n X (pc := 51) (L2 := [(2, .int (x2 + 1)), (0, .ref (a 0)), (1, .int x1), (3, .int x3)]) dX6_stilesOf_51 rfl (by decide) rfl ?_
          refine v_iinc X (pc := 52) (v := (x3 + 1)) (L2 := [(3, .int (x3 + 1)), (2, .int (x2 + 1)), (0, .ref (a 0)), (1, .int x1)]) dX6_stilesOf_52 3 rfl (by first | rfl | decide) (by decide) rfl ?_
          refine v_goto X (pc := 55) (tgt := 4) dX6_stilesOf_55 (by decide) ?_
          refine v_sub (L2 := [(0, .ref (a 0)), (1, .int x1), (2, .int (x2 + 1)), (3, .int (x3 + 1))]) [2, 3, 1, 0] rfl ?_
          exact ih (x2 + 1) (x3 + 1) h F
def f_X6_stilesOf (μ : Blk) (x1 : Int32) : Option (Int32) :=
  f_X6_stilesOf_L4 μ x1 FU 0 0
set_option maxHeartbeats 4000000 in
set_option maxRecDepth 100000 in
theorem c_X6_stilesOf (l : Launch) (g : Gl) (a : Nat → Nat) (μ : Blk) (x1 : Int32) {res : Int32} (h : f_X6_stilesOf μ x1 = some res) : Ok l g yX6_stilesOf cX6_stilesOf 4 (Option.some FieldType.int) 1 21 [.ref (a 0), .int x1] (wM g a μ) (some (.int res)) (wM g a μ) := by
  refine Ok.of RX6 (by decide) rfl (Nat.le_of_ble_eq_true rfl) (fun x hl hg X F => ?_)
  subst hg; subst hl
  rw [f_X6_stilesOf] at h
  show V x (wM x.g a μ) [(0, .ref (a 0)), (1, .int x1)] [] 0
  refine v_iconst X (pc := 0) (v := 0) dX6_stilesOf_0 (by decide) ?_
  refine v_istore_n X (pc := 1) (L2 := [(2, .int 0), (0, .ref (a 0)), (1, .int x1)]) dX6_stilesOf_1 rfl (by decide) rfl ?_
  refine v_iconst X (pc := 2) (v := 0) dX6_stilesOf_2 (by decide) ?_
  refine v_istore_n X (pc := 3) (L2 := [(3, .int 0), (2, .int 0), (0, .ref (a 0)), (1, .int x1)]) dX6_stilesOf_3 rfl (by decide) rfl ?_
  refine v_sub (L2 := [(0, .ref (a 0)), (1, .int x1), (2, .int 0), (3, .int 0)]) [2, 3, 1, 0] rfl ?_
  exact v_X6_stilesOf_L4 X a μ x1 FU 0 0 h F
theorem cw_X6_stilesOf : CwB yX6_stilesOf cX6_stilesOf 4 (Option.some FieldType.int) 1 := ⟨q_902, q_57, by decide, by decide, by decide +kernel⟩
def f_X6_distance (μ : Blk) (x1 : Int32) : Option (Int32 × Blk) :=
  (f_X6_distances μ 0).bind fun q2 => (if ib x1 6 = true then some (((q2 3) (Int32.toNatClampNeg x1)), q2) else none)
set_option maxHeartbeats 4000000 in
set_option maxRecDepth 100000 in
theorem c_X6_distance (l : Launch) (g : Gl) (a : Nat → Nat) (μ : Blk) (x1 : Int32) {res : Int32 × Blk} (h : f_X6_distance μ x1 = some res) : Ok l g yX6_distance cX6_distance 2 (Option.some FieldType.int) 2 49 [.ref (a 0), .int x1] (wM g a μ) (some (.int res.1)) (wM g a res.2) := by
  refine Ok.of RX6 (by decide) rfl (Nat.le_of_ble_eq_true rfl) (fun x hl hg X F => ?_)
  subst hg; subst hl
  rw [f_X6_distance] at h
  show V x (wM x.g a μ) [(0, .ref (a 0)), (1, .int x1)] [] 0
  refine v_aload_n X (pc := 0) dX6_distance_0 rfl 0 rfl ?_
  refine v_iconst X (pc := 1) (v := 0) dX6_distance_1 (by decide) ?_
  obtain ⟨q2, e2, h⟩ := ob h
  refine v_callV X (pc := 2) (st1 := []) (w' := (wM x.g a q2)) [.int 0] [] (c_X6_distances x.l x.g a μ 0 e2) rfl rfl cw_X6_distances q_822 q_824 q_36 ⟨by decide, by decide⟩ 0 6 rfl rfl rfl (Fr.all rfl) rfl (Nat.le_of_ble_eq_true rfl) dX6_distance_2 ?_
  refine v_aload_n X (pc := 5) dX6_distance_5 rfl 0 rfl ?_
  refine v_get X (pc := 6) (v := .ref (a 3)) uw6 0 rfl rfl 5 (by decide) q_673 rfl rfl dX6_distance_6 ?_
  refine v_iload_n X (pc := 9) dX6_distance_9 rfl 1 rfl ?_
  obtain ⟨g10, h⟩ := og h
  refine v_iald X (pc := 10) (v := ((q2 3) (Int32.toNatClampNeg x1))) 3 rfl (ib_in g10) rfl dX6_distance_10 ?_
  replace h := oi h
  subst h
  exact v_iret X (pc := 11) F dX6_distance_11
theorem cw_X6_distance : CwB yX6_distance cX6_distance 2 (Option.some FieldType.int) 1 := ⟨q_898, q_57, by decide, by decide, by decide +kernel⟩
def f_X6_hall (μ : Blk) (x1 : Int32) (x2 : Int32) : Option (Int32 × Blk) :=
  lt (f_X6_isHall x1) fun q1 => (if q1 = true then (if x2 = 0 then (if ib (4 + x1) 2048 = true then some (((μ 1) (Int32.toNatClampNeg (4 + x1))), μ) else none) else (if x2 = 1 then (if ib (10 + x1) 2048 = true then some (((μ 1) (Int32.toNatClampNeg (10 + x1))), μ) else none) else (if x2 = 2 then (f_X6_told μ x1 true).bind fun q70 => some (q70, μ) else (if x2 = 3 then (f_X6_told μ x1 false).bind fun q77 => some (q77, μ) else (if x2 = 4 then (f_X6_distance μ x1).bind fun q83 => some (q83.1, q83.2) else (if x2 = 5 then (f_X6_stilesOf μ x1).bind fun q89 => some (q89, μ) else some ((-100002), μ))))))) else some ((-100001), μ))
set_option maxHeartbeats 4000000 in
set_option maxRecDepth 100000 in
theorem c_X6_hall (l : Launch) (g : Gl) (a : Nat → Nat) (μ : Blk) (x1 : Int32) (x2 : Int32) {res : Int32 × Blk} (h : f_X6_hall μ x1 x2 = some res) : Ok l g yX6_hall cX6_hall 3 (Option.some FieldType.int) 3 70 [.ref (a 0), .int x1, .int x2] (wM g a μ) (some (.int res.1)) (wM g a res.2) := by
  refine Ok.of RX6 (by decide) rfl (Nat.le_of_ble_eq_true rfl) (fun x hl hg X F => ?_)
  subst hg; subst hl
  rw [f_X6_hall] at h
  show V x (wM x.g a μ) [(0, .ref (a 0)), (1, .int x1), (2, .int x2)] [] 0
  refine v_iload_n X (pc := 0) dX6_hall_0 rfl 1 rfl ?_
  obtain ⟨q1, e1, h⟩ := lts h
  refine v_callS X (pc := 1) (st1 := [.int (b2i q1)]) (w' := (wM x.g a μ)) [.int x1] [] (c_X6_isHall x.l x.g  x1 e1) rfl rfl cw_X6_isHall q_736 q_737 ⟨by decide, by decide⟩ Fr.nil rfl (Nat.le_of_ble_eq_true rfl) dX6_hall_1 ?_
  refine v_ifneB X (pc := 4) (tgt := 10) dX6_hall_4 (by decide) (fun c => ?_) (fun c => ?_)
  · replace h := hp c h
    refine v_iload_n X (pc := 10) dX6_hall_10 rfl 2 rfl ?_
    by_cases t0 : x2 = 0
    · replace h := hp t0 h
      refine v_tswIn X (pc := 11) (tgt := 48) (off := 37) dX6_hall_11 (by rw [t0]; decide) (by rw [t0]; decide) (by rw [t0]; decide) (by decide) ?_
      refine v_aload_n X (pc := 48) dX6_hall_48 rfl 0 rfl ?_
      refine v_get X (pc := 49) (v := .ref (a 1)) uw6 0 rfl rfl 0 (by decide) q_668 rfl rfl dX6_hall_49 ?_
      refine v_iconst X (pc := 52) (v := 4) dX6_hall_52 (by decide) ?_
      refine v_iload_n X (pc := 53) dX6_hall_53 rfl 1 rfl ?_
      refine v_iadd X (pc := 54) dX6_hall_54 ?_
      obtain ⟨g55, h⟩ := og h
      refine v_iald X (pc := 55) (v := ((μ 1) (Int32.toNatClampNeg (4 + x1)))) 1 rfl (ib_in g55) rfl dX6_hall_55 ?_
      replace h := oi h
      subst h
      exact v_iret X (pc := 56) F dX6_hall_56
    · replace h := hn t0 h
      by_cases t1 : x2 = 1
      · replace h := hp t1 h
        refine v_tswIn X (pc := 11) (tgt := 57) (off := 46) dX6_hall_11 (by rw [t1]; decide) (by rw [t1]; decide) (by rw [t1]; decide) (by decide) ?_
        refine v_aload_n X (pc := 57) dX6_hall_57 rfl 0 rfl ?_
        refine v_get X (pc := 58) (v := .ref (a 1)) uw6 0 rfl rfl 0 (by decide) q_668 rfl rfl dX6_hall_58 ?_
        refine v_bipush X (pc := 61) (v := 10) dX6_hall_61 (by decide) ?_
        refine v_iload_n X (pc := 63) dX6_hall_63 rfl 1 rfl ?_
        refine v_iadd X (pc := 64) dX6_hall_64 ?_
        obtain ⟨g65, h⟩ := og h
        refine v_iald X (pc := 65) (v := ((μ 1) (Int32.toNatClampNeg (10 + x1)))) 1 rfl (ib_in g65) rfl dX6_hall_65 ?_
        replace h := oi h
        subst h
        exact v_iret X (pc := 66) F dX6_hall_66
      · replace h := hn t1 h
        by_cases t2 : x2 = 2
        · replace h := hp t2 h
          refine v_tswIn X (pc := 11) (tgt := 67) (off := 56) dX6_hall_11 (by rw [t2]; decide) (by rw [t2]; decide) (by rw [t2]; decide) (by decide) ?_
          refine v_aload_n X (pc := 67) dX6_hall_67 rfl 0 rfl ?_
          refine v_iload_n X (pc := 68) dX6_hall_68 rfl 1 rfl ?_
          refine v_iconst X (pc := 69) (v := 1) dX6_hall_69 (by decide) ?_
          obtain ⟨q70, e70, h⟩ := ob h
          refine v_callV X (pc := 70) (st1 := [.int q70]) (w' := (wM x.g a μ)) [.int x1, .int (b2i true)] [] (c_X6_told x.l x.g a μ x1 true e70) rfl rfl cw_X6_told q_891 q_893 q_44 ⟨by decide, by decide⟩ 0 6 rfl rfl rfl (Fr.all rfl) rfl (Nat.le_of_ble_eq_true rfl) dX6_hall_70 ?_
          replace h := oi h
          subst h
          exact v_iret X (pc := 73) F dX6_hall_73
        · replace h := hn t2 h
          by_cases t3 : x2 = 3
          · replace h := hp t3 h
            refine v_tswIn X (pc := 11) (tgt := 74) (off := 63) dX6_hall_11 (by rw [t3]; decide) (by rw [t3]; decide) (by rw [t3]; decide) (by decide) ?_
            refine v_aload_n X (pc := 74) dX6_hall_74 rfl 0 rfl ?_
            refine v_iload_n X (pc := 75) dX6_hall_75 rfl 1 rfl ?_
            refine v_iconst X (pc := 76) (v := 0) dX6_hall_76 (by decide) ?_
            obtain ⟨q77, e77, h⟩ := ob h
            refine v_callV X (pc := 77) (st1 := [.int q77]) (w' := (wM x.g a μ)) [.int x1, .int (b2i false)] [] (c_X6_told x.l x.g a μ x1 false e77) rfl rfl cw_X6_told q_891 q_893 q_44 ⟨by decide, by decide⟩ 0 6 rfl rfl rfl (Fr.all rfl) rfl (Nat.le_of_ble_eq_true rfl) dX6_hall_77 ?_
            replace h := oi h
            subst h
            exact v_iret X (pc := 80) F dX6_hall_80
          · replace h := hn t3 h
            by_cases t4 : x2 = 4
            · replace h := hp t4 h
              refine v_tswIn X (pc := 11) (tgt := 81) (off := 70) dX6_hall_11 (by rw [t4]; decide) (by rw [t4]; decide) (by rw [t4]; decide) (by decide) ?_
              refine v_aload_n X (pc := 81) dX6_hall_81 rfl 0 rfl ?_
              refine v_iload_n X (pc := 82) dX6_hall_82 rfl 1 rfl ?_
              obtain ⟨q83, e83, h⟩ := ob h
              refine v_callV X (pc := 83) (st1 := [.int q83.1]) (w' := (wM x.g a q83.2)) [.int x1] [] (c_X6_distance x.l x.g a μ x1 e83) rfl rfl cw_X6_distance q_895 q_897 q_45 ⟨by decide, by decide⟩ 0 6 rfl rfl rfl (Fr.all rfl) rfl (Nat.le_of_ble_eq_true rfl) dX6_hall_83 ?_
              replace h := oi h
              subst h
              exact v_iret X (pc := 86) F dX6_hall_86
            · replace h := hn t4 h
              by_cases t5 : x2 = 5
              · replace h := hp t5 h
                refine v_tswIn X (pc := 11) (tgt := 87) (off := 76) dX6_hall_11 (by rw [t5]; decide) (by rw [t5]; decide) (by rw [t5]; decide) (by decide) ?_
                refine v_aload_n X (pc := 87) dX6_hall_87 rfl 0 rfl ?_
                refine v_iload_n X (pc := 88) dX6_hall_88 rfl 1 rfl ?_
                obtain ⟨q89, e89, h⟩ := ob h
                refine v_callV X (pc := 89) (st1 := [.int q89]) (w' := (wM x.g a μ)) [.int x1] [] (c_X6_stilesOf x.l x.g a μ x1 e89) rfl rfl cw_X6_stilesOf q_899 q_901 q_46 ⟨by decide, by decide⟩ 0 6 rfl rfl rfl (Fr.all rfl) rfl (Nat.le_of_ble_eq_true rfl) dX6_hall_89 ?_
                replace h := oi h
                subst h
                exact v_iret X (pc := 92) F dX6_hall_92
              · replace h := hn t5 h
                have u0 : ¬ Int32.toInt x2 = 0 := fun e => t0 ((Int32.toInt_inj (y := 0)).mp e)
                have u1 : ¬ Int32.toInt x2 = 1 := fun e => t1 ((Int32.toInt_inj (y := 1)).mp e)
                have u2 : ¬ Int32.toInt x2 = 2 := fun e => t2 ((Int32.toInt_inj (y := 2)).mp e)
                have u3 : ¬ Int32.toInt x2 = 3 := fun e => t3 ((Int32.toInt_inj (y := 3)).mp e)
                have u4 : ¬ Int32.toInt x2 = 4 := fun e => t4 ((Int32.toInt_inj (y := 4)).mp e)
                have u5 : ¬ Int32.toInt x2 = 5 := fun e => t5 ((Int32.toInt_inj (y := 5)).mp e)
                refine v_tswOut X (pc := 11) (tgt := 93) dX6_hall_11 (by omega) (by decide) ?_
                refine v_ldc X (pc := 93) (v := (-100002)) q_711 dX6_hall_93 ?_
                replace h := oi h
                subst h
                exact v_iret X (pc := 95) F dX6_hall_95
  · replace h := hn (nbt c) h
    refine v_ldc X (pc := 7) (v := (-100001)) q_710 dX6_hall_7 ?_
    replace h := oi h
    subst h
    exact v_iret X (pc := 9) F dX6_hall_9
theorem cw_X6_hall : CwB yX6_hall cX6_hall 3 (Option.some FieldType.int) 2 := ⟨q_890, q_57, by decide, by decide, by decide +kernel⟩
def f_X6_stileOf (μ : Blk) (x1 : Int32) (x2 : Int32) : Option (Int32) :=
  lt (f_X6_isStile μ x1) fun q2 => (if q2 = true then lt (f_X6_in x2 0 4) fun q14 => (if q14 = true then (if x2 = 4 then (f_X6_gap μ x1).bind fun q32 => some q32 else lt (f_X6_place 0 x1) fun q44 => (if ib (q44 + x2) 2048 = true then some ((μ 1) (Int32.toNatClampNeg (q44 + x2))) else none)) else some (-100002)) else some (-100001))
set_option maxHeartbeats 4000000 in
set_option maxRecDepth 100000 in
theorem c_X6_stileOf (l : Launch) (g : Gl) (a : Nat → Nat) (μ : Blk) (x1 : Int32) (x2 : Int32) {res : Int32} (h : f_X6_stileOf μ x1 x2 = some res) : Ok l g yX6_stileOf cX6_stileOf 3 (Option.some FieldType.int) 2 44 [.ref (a 0), .int x1, .int x2] (wM g a μ) (some (.int res)) (wM g a μ) := by
  refine Ok.of RX6 (by decide) rfl (Nat.le_of_ble_eq_true rfl) (fun x hl hg X F => ?_)
  subst hg; subst hl
  rw [f_X6_stileOf] at h
  show V x (wM x.g a μ) [(0, .ref (a 0)), (1, .int x1), (2, .int x2)] [] 0
  refine v_aload_n X (pc := 0) dX6_stileOf_0 rfl 0 rfl ?_
  refine v_iload_n X (pc := 1) dX6_stileOf_1 rfl 1 rfl ?_
  obtain ⟨q2, e2, h⟩ := lts h
  refine v_callV X (pc := 2) (st1 := [.int (b2i q2)]) (w' := (wM x.g a μ)) [.int x1] [] (c_X6_isStile x.l x.g a μ x1 e2) rfl rfl cw_X6_isStile q_728 q_730 q_22 ⟨by decide, by decide⟩ 0 6 rfl rfl rfl (Fr.all rfl) rfl (Nat.le_of_ble_eq_true rfl) dX6_stileOf_2 ?_
  refine v_ifneB X (pc := 5) (tgt := 11) dX6_stileOf_5 (by decide) (fun c => ?_) (fun c => ?_)
  · replace h := hp c h
    refine v_iload_n X (pc := 11) dX6_stileOf_11 rfl 2 rfl ?_
    refine v_iconst X (pc := 12) (v := 0) dX6_stileOf_12 (by decide) ?_
    refine v_iconst X (pc := 13) (v := 4) dX6_stileOf_13 (by decide) ?_
    obtain ⟨q14, e14, h⟩ := lts h
    refine v_callS X (pc := 14) (st1 := [.int (b2i q14)]) (w' := (wM x.g a μ)) [.int x2, .int 0, .int 4] [] (c_X6_in x.l x.g  x2 0 4 e14) rfl rfl cw_X6_in q_707 q_708 ⟨by decide, by decide⟩ Fr.nil rfl (Nat.le_of_ble_eq_true rfl) dX6_stileOf_14 ?_
    refine v_ifneB X (pc := 17) (tgt := 25) dX6_stileOf_17 (by decide) (fun c => ?_) (fun c => ?_)
    · replace h := hp c h
      refine v_iload_n X (pc := 25) dX6_stileOf_25 rfl 2 rfl ?_
      refine v_iconst X (pc := 26) (v := 4) dX6_stileOf_26 (by decide) ?_
      refine v_icmpne X (pc := 27) (tgt := 38) dX6_stileOf_27 (by decide) (fun c => ?_) (fun c => ?_)
      · replace h := hn c h
        refine v_aload_n X (pc := 38) dX6_stileOf_38 rfl 0 rfl ?_
        refine v_get X (pc := 39) (v := .ref (a 1)) uw6 0 rfl rfl 0 (by decide) q_668 rfl rfl dX6_stileOf_39 ?_
        refine v_iconst X (pc := 42) (v := 0) dX6_stileOf_42 (by decide) ?_
        refine v_iload_n X (pc := 43) dX6_stileOf_43 rfl 1 rfl ?_
        obtain ⟨q44, e44, h⟩ := lts h
        refine v_callS X (pc := 44) (st1 := [.int q44, .ref (a 1)]) (w' := (wM x.g a μ)) [.int 0, .int x1] [.ref (a 1)] (c_X6_place x.l x.g  0 x1 e44) rfl rfl cw_X6_place q_721 q_722 ⟨by decide, by decide⟩ Fr.nil rfl (Nat.le_of_ble_eq_true rfl) dX6_stileOf_44 ?_
        refine v_iload_n X (pc := 47) dX6_stileOf_47 rfl 2 rfl ?_
        refine v_iadd X (pc := 48) dX6_stileOf_48 ?_
        obtain ⟨g49, h⟩ := og h
        refine v_iald X (pc := 49) (v := ((μ 1) (Int32.toNatClampNeg (q44 + x2)))) 1 rfl (ib_in g49) rfl dX6_stileOf_49 ?_
        replace h := oi h
        subst h
        exact v_iret X (pc := 50) F dX6_stileOf_50
      · replace h := hp c h
        refine v_aload_n X (pc := 30) dX6_stileOf_30 rfl 0 rfl ?_
        refine v_iload_n X (pc := 31) dX6_stileOf_31 rfl 1 rfl ?_
        obtain ⟨q32, e32, h⟩ := ob h
        refine v_callV X (pc := 32) (st1 := [.int q32]) (w' := (wM x.g a μ)) [.int x1] [] (c_X6_gap x.l x.g a μ x1 e32) rfl rfl cw_X6_gap q_779 q_781 q_30 ⟨by decide, by decide⟩ 0 6 rfl rfl rfl (Fr.all rfl) rfl (Nat.le_of_ble_eq_true rfl) dX6_stileOf_32 ?_
        refine v_goto X (pc := 35) (tgt := 50) dX6_stileOf_35 (by decide) ?_
        replace h := oi h
        subst h
        exact v_iret X (pc := 50) F dX6_stileOf_50
    · replace h := hn (nbt c) h
      refine v_ldc X (pc := 20) (v := (-100002)) q_711 dX6_stileOf_20 ?_
      refine v_goto X (pc := 22) (tgt := 50) dX6_stileOf_22 (by decide) ?_
      replace h := oi h
      subst h
      exact v_iret X (pc := 50) F dX6_stileOf_50
  · replace h := hn (nbt c) h
    refine v_ldc X (pc := 8) (v := (-100001)) q_710 dX6_stileOf_8 ?_
    replace h := oi h
    subst h
    exact v_iret X (pc := 10) F dX6_stileOf_10
theorem cw_X6_stileOf : CwB yX6_stileOf cX6_stileOf 3 (Option.some FieldType.int) 2 := ⟨q_906, q_57, by decide, by decide, by decide +kernel⟩
def f_X6_counter (μ : Blk) (x1 : Int32) (x2 : Int32) (x3 : Int32) : Option (Int32) :=
  lt (f_X6_isStile μ x1) fun q2 => (if q2 = true then lt (f_X6_in x2 0 3) fun q14 => (if q14 = true then lt (f_X6_in x3 0 2) fun q23 => (if q23 = true then lt (f_X6_place 0 x1) fun q34 => (if x3 = 0 then (if ib ((q34 + 4) + (4 * x2)) 2048 = true then some ((μ 1) (Int32.toNatClampNeg ((q34 + 4) + (4 * x2)))) else none) else (if x3 = 1 then (if ib (((q34 + 4) + (4 * x2)) + 1) 2048 = true then some ((μ 1) (Int32.toNatClampNeg (((q34 + 4) + (4 * x2)) + 1))) else none) else (if ib (((q34 + 4) + (4 * x2)) + 3) 2048 = true then some ((μ 1) (Int32.toNatClampNeg (((q34 + 4) + (4 * x2)) + 3))) else none))) else some (-100002)) else some (-100002)) else some (-100001))
set_option maxHeartbeats 4000000 in
set_option maxRecDepth 100000 in
theorem c_X6_counter (l : Launch) (g : Gl) (a : Nat → Nat) (μ : Blk) (x1 : Int32) (x2 : Int32) (x3 : Int32) {res : Int32} (h : f_X6_counter μ x1 x2 x3 = some res) : Ok l g yX6_counter cX6_counter 5 (Option.some FieldType.int) 2 43 [.ref (a 0), .int x1, .int x2, .int x3] (wM g a μ) (some (.int res)) (wM g a μ) := by
  refine Ok.of RX6 (by decide) rfl (Nat.le_of_ble_eq_true rfl) (fun x hl hg X F => ?_)
  subst hg; subst hl
  rw [f_X6_counter] at h
  show V x (wM x.g a μ) [(0, .ref (a 0)), (1, .int x1), (2, .int x2), (3, .int x3)] [] 0
  refine v_aload_n X (pc := 0) dX6_counter_0 rfl 0 rfl ?_
  refine v_iload_n X (pc := 1) dX6_counter_1 rfl 1 rfl ?_
  obtain ⟨q2, e2, h⟩ := lts h
  refine v_callV X (pc := 2) (st1 := [.int (b2i q2)]) (w' := (wM x.g a μ)) [.int x1] [] (c_X6_isStile x.l x.g a μ x1 e2) rfl rfl cw_X6_isStile q_728 q_730 q_22 ⟨by decide, by decide⟩ 0 6 rfl rfl rfl (Fr.all rfl) rfl (Nat.le_of_ble_eq_true rfl) dX6_counter_2 ?_
  refine v_ifneB X (pc := 5) (tgt := 11) dX6_counter_5 (by decide) (fun c => ?_) (fun c => ?_)
  · replace h := hp c h
    refine v_iload_n X (pc := 11) dX6_counter_11 rfl 2 rfl ?_
    refine v_iconst X (pc := 12) (v := 0) dX6_counter_12 (by decide) ?_
    refine v_iconst X (pc := 13) (v := 3) dX6_counter_13 (by decide) ?_
    obtain ⟨q14, e14, h⟩ := lts h
    refine v_callS X (pc := 14) (st1 := [.int (b2i q14)]) (w' := (wM x.g a μ)) [.int x2, .int 0, .int 3] [] (c_X6_in x.l x.g  x2 0 3 e14) rfl rfl cw_X6_in q_707 q_708 ⟨by decide, by decide⟩ Fr.nil rfl (Nat.le_of_ble_eq_true rfl) dX6_counter_14 ?_
    refine v_ifeqB X (pc := 17) (tgt := 29) dX6_counter_17 (by decide) (fun c => ?_) (fun c => ?_)
    · replace h := hn (nbt c) h
      refine v_ldc X (pc := 29) (v := (-100002)) q_711 dX6_counter_29 ?_
      replace h := oi h
      subst h
      exact v_iret X (pc := 31) F dX6_counter_31
    · replace h := hp c h
      refine v_iload_n X (pc := 20) dX6_counter_20 rfl 3 rfl ?_
      refine v_iconst X (pc := 21) (v := 0) dX6_counter_21 (by decide) ?_
      refine v_iconst X (pc := 22) (v := 2) dX6_counter_22 (by decide) ?_
      obtain ⟨q23, e23, h⟩ := lts h
      refine v_callS X (pc := 23) (st1 := [.int (b2i q23)]) (w' := (wM x.g a μ)) [.int x3, .int 0, .int 2] [] (c_X6_in x.l x.g  x3 0 2 e23) rfl rfl cw_X6_in q_707 q_708 ⟨by decide, by decide⟩ Fr.nil rfl (Nat.le_of_ble_eq_true rfl) dX6_counter_23 ?_
      refine v_ifneB X (pc := 26) (tgt := 32) dX6_counter_26 (by decide) (fun c => ?_) (fun c => ?_)
      · replace h := hp c h
        refine v_iconst X (pc := 32) (v := 0) dX6_counter_32 (by decide) ?_
        refine v_iload_n X (pc := 33) dX6_counter_33 rfl 1 rfl ?_
        obtain ⟨q34, e34, h⟩ := lts h
        refine v_callS X (pc := 34) (st1 := [.int q34]) (w' := (wM x.g a μ)) [.int 0, .int x1] [] (c_X6_place x.l x.g  0 x1 e34) rfl rfl cw_X6_place q_721 q_722 ⟨by decide, by decide⟩ Fr.nil rfl (Nat.le_of_ble_eq_true rfl) dX6_counter_34 ?_
        refine v_iconst X (pc := 37) (v := 4) dX6_counter_37 (by decide) ?_
        refine v_iadd X (pc := 38) dX6_counter_38 ?_
        refine v_iconst X (pc := 39) (v := 4) dX6_counter_39 (by decide) ?_
        refine v_iload_n X (pc := 40) dX6_counter_40 rfl 2 rfl ?_
        refine v_imul X (pc := 41) dX6_counter_41 ?_
        refine v_iadd X (pc := 42) dX6_counter_42 ?_
        refine v_istore X (pc := 43) (L2 := [(4, .int ((q34 + 4) + (4 * x2))), (0, .ref (a 0)), (1, .int x1), (2, .int x2), (3, .int x3)]) dX6_counter_43 (by decide) rfl ?_
        refine v_iload_n X (pc := 45) dX6_counter_45 rfl 4 rfl ?_
        refine v_ifne X (pc := 46) (tgt := 59) dX6_counter_46 (by decide) (fun c => ?_) (fun c => ?_)
        · replace h := hn c h
          refine v_iload_n X (pc := 59) dX6_counter_59 rfl 4 rfl ?_
          refine v_iconst X (pc := 60) (v := 1) dX6_counter_60 (by decide) ?_
          refine v_icmpne X (pc := 61) (tgt := 76) dX6_counter_61 (by decide) (fun c => ?_) (fun c => ?_)
          · replace h := hn c h
            refine v_aload_n X (pc := 76) dX6_counter_76 rfl 1 rfl ?_
            refine v_get X (pc := 77) (v := .ref (a 1)) uw6 0 rfl rfl 0 (by decide) q_668 rfl rfl dX6_counter_77 ?_
            refine v_iload X (pc := 80) dX6_counter_80 0 rfl ?_
            refine v_iconst X (pc := 82) (v := 3) dX6_counter_82 (by decide) ?_
            refine v_iadd X (pc := 83) dX6_counter_83 ?_
            obtain ⟨g84, h⟩ := og h
            refine v_iald X (pc := 84) (v := ((μ 1) (Int32.toNatClampNeg (((q34 + 4) + (4 * x2)) + 3)))) 1 rfl (ib_in g84) rfl dX6_counter_84 ?_
            replace h := oi h
            subst h
            exact v_iret X (pc := 85) F dX6_counter_85
          · replace h := hp c h
            refine v_aload_n X (pc := 64) dX6_counter_64 rfl 1 rfl ?_
            refine v_get X (pc := 65) (v := .ref (a 1)) uw6 0 rfl rfl 0 (by decide) q_668 rfl rfl dX6_counter_65 ?_
            refine v_iload X (pc := 68) dX6_counter_68 0 rfl ?_
            refine v_iconst X (pc := 70) (v := 1) dX6_counter_70 (by decide) ?_
            refine v_iadd X (pc := 71) dX6_counter_71 ?_
            obtain ⟨g72, h⟩ := og h
            refine v_iald X (pc := 72) (v := ((μ 1) (Int32.toNatClampNeg (((q34 + 4) + (4 * x2)) + 1)))) 1 rfl (ib_in g72) rfl dX6_counter_72 ?_
            refine v_goto X (pc := 73) (tgt := 85) dX6_counter_73 (by decide) ?_
            replace h := oi h
            subst h
            exact v_iret X (pc := 85) F dX6_counter_85
        · replace h := hp c h
          refine v_aload_n X (pc := 49) dX6_counter_49 rfl 1 rfl ?_
          refine v_get X (pc := 50) (v := .ref (a 1)) uw6 0 rfl rfl 0 (by decide) q_668 rfl rfl dX6_counter_50 ?_
          refine v_iload X (pc := 53) dX6_counter_53 0 rfl ?_
          obtain ⟨g55, h⟩ := og h
          refine v_iald X (pc := 55) (v := ((μ 1) (Int32.toNatClampNeg ((q34 + 4) + (4 * x2))))) 1 rfl (ib_in g55) rfl dX6_counter_55 ?_
          refine v_goto X (pc := 56) (tgt := 85) dX6_counter_56 (by decide) ?_
          replace h := oi h
          subst h
          exact v_iret X (pc := 85) F dX6_counter_85
      · replace h := hn (nbt c) h
        refine v_ldc X (pc := 29) (v := (-100002)) q_711 dX6_counter_29 ?_
        replace h := oi h
        subst h
        exact v_iret X (pc := 31) F dX6_counter_31
  · replace h := hn (nbt c) h
    refine v_ldc X (pc := 8) (v := (-100001)) q_710 dX6_counter_8 ?_
    replace h := oi h
    subst h
    exact v_iret X (pc := 10) F dX6_counter_10
theorem cw_X6_counter : CwB yX6_counter cX6_counter 5 (Option.some FieldType.int) 3 := ⟨q_910, q_57, by decide, by decide, by decide +kernel⟩
def f_X6_reason (μ : Blk) (x1 : Int32) (x2 : Bool) (x3 : Int32) : Option (Int32) :=
  lt (f_X6_isStile μ x1) fun q2 => (if q2 = true then lt (f_X6_in x3 1 99) fun q15 => (if q15 = true then (f_X6_why μ 0 x1 x2 x3).bind fun q26 => some q26 else some (-100002)) else some (-100001))
set_option maxHeartbeats 4000000 in
set_option maxRecDepth 100000 in
theorem c_X6_reason (l : Launch) (g : Gl) (a : Nat → Nat) (μ : Blk) (x1 : Int32) (x2 : Bool) (x3 : Int32) {res : Int32} (h : f_X6_reason μ x1 x2 x3 = some res) : Ok l g yX6_reason cX6_reason 4 (Option.some FieldType.int) 2 51 [.ref (a 0), .int x1, .int (b2i x2), .int x3] (wM g a μ) (some (.int res)) (wM g a μ) := by
  refine Ok.of RX6 (by decide) rfl (Nat.le_of_ble_eq_true rfl) (fun x hl hg X F => ?_)
  subst hg; subst hl
  rw [f_X6_reason] at h
  show V x (wM x.g a μ) [(0, .ref (a 0)), (1, .int x1), (2, .int (b2i x2)), (3, .int x3)] [] 0
  refine v_aload_n X (pc := 0) dX6_reason_0 rfl 0 rfl ?_
  refine v_iload_n X (pc := 1) dX6_reason_1 rfl 1 rfl ?_
  obtain ⟨q2, e2, h⟩ := lts h
  refine v_callV X (pc := 2) (st1 := [.int (b2i q2)]) (w' := (wM x.g a μ)) [.int x1] [] (c_X6_isStile x.l x.g a μ x1 e2) rfl rfl cw_X6_isStile q_728 q_730 q_22 ⟨by decide, by decide⟩ 0 6 rfl rfl rfl (Fr.all rfl) rfl (Nat.le_of_ble_eq_true rfl) dX6_reason_2 ?_
  refine v_ifneB X (pc := 5) (tgt := 11) dX6_reason_5 (by decide) (fun c => ?_) (fun c => ?_)
  · replace h := hp c h
    refine v_iload_n X (pc := 11) dX6_reason_11 rfl 3 rfl ?_
    refine v_iconst X (pc := 12) (v := 1) dX6_reason_12 (by decide) ?_
    refine v_bipush X (pc := 13) (v := 99) dX6_reason_13 (by decide) ?_
    obtain ⟨q15, e15, h⟩ := lts h
    refine v_callS X (pc := 15) (st1 := [.int (b2i q15)]) (w' := (wM x.g a μ)) [.int x3, .int 1, .int 99] [] (c_X6_in x.l x.g  x3 1 99 e15) rfl rfl cw_X6_in q_707 q_708 ⟨by decide, by decide⟩ Fr.nil rfl (Nat.le_of_ble_eq_true rfl) dX6_reason_15 ?_
    refine v_ifeqB X (pc := 18) (tgt := 32) dX6_reason_18 (by decide) (fun c => ?_) (fun c => ?_)
    · replace h := hn (nbt c) h
      refine v_ldc X (pc := 32) (v := (-100002)) q_711 dX6_reason_32 ?_
      replace h := oi h
      subst h
      exact v_iret X (pc := 34) F dX6_reason_34
    · replace h := hp c h
      refine v_aload_n X (pc := 21) dX6_reason_21 rfl 0 rfl ?_
      refine v_iconst X (pc := 22) (v := 0) dX6_reason_22 (by decide) ?_
      refine v_iload_n X (pc := 23) dX6_reason_23 rfl 1 rfl ?_
      refine v_iload_n X (pc := 24) dX6_reason_24 rfl 2 rfl ?_
      refine v_iload_n X (pc := 25) dX6_reason_25 rfl 3 rfl ?_
      obtain ⟨q26, e26, h⟩ := ob h
      refine v_callV X (pc := 26) (st1 := [.int q26]) (w' := (wM x.g a μ)) [.int 0, .int x1, .int (b2i x2), .int x3] [] (c_X6_why x.l x.g a μ 0 x1 x2 x3 e26) rfl rfl cw_X6_why q_755 q_757 q_24 ⟨by decide, by decide⟩ 0 6 rfl rfl rfl (Fr.all rfl) rfl (Nat.le_of_ble_eq_true rfl) dX6_reason_26 ?_
      refine v_goto X (pc := 29) (tgt := 34) dX6_reason_29 (by decide) ?_
      replace h := oi h
      subst h
      exact v_iret X (pc := 34) F dX6_reason_34
  · replace h := hn (nbt c) h
    refine v_ldc X (pc := 8) (v := (-100001)) q_710 dX6_reason_8 ?_
    replace h := oi h
    subst h
    exact v_iret X (pc := 10) F dX6_reason_10
theorem cw_X6_reason : CwB yX6_reason cX6_reason 4 (Option.some FieldType.int) 3 := ⟨q_914, q_57, by decide, by decide, by decide +kernel⟩
def f_X6_worst_I28 (μ : Blk) (x1 : Int32) (x2 : Int32) (x3 : Int32) : Nat → Int32 → Int32 → Option (Int32)
  | 0, _, _ => none
  | n + 1, x4, x5 =>
    (if ((μ 1) 3) ≤ x5 then some x4 else (f_X6_gap μ x5).bind fun q44 => (f_X6_gap μ x3).bind fun q49 => (if q49 < q44 then f_X6_worst_I28 μ x1 x2 x3 n (x4 + 1) (x5 + 1) else (f_X6_gap μ x5).bind fun q58 => (f_X6_gap μ x3).bind fun q63 => (if q58 = q63 then (if x3 ≤ x5 then f_X6_worst_I28 μ x1 x2 x3 n (x4 + 0) (x5 + 1) else f_X6_worst_I28 μ x1 x2 x3 n (x4 + 1) (x5 + 1)) else f_X6_worst_I28 μ x1 x2 x3 n (x4 + 0) (x5 + 1))))
set_option maxHeartbeats 4000000 in
set_option maxRecDepth 100000 in
theorem v_X6_worst_I28 {x : Ctx} (X : Cx x RX6 cX6_worst 6 2 44) (a : Nat → Nat) (μ : Blk) (x1 : Int32) (x2 : Int32) (x3 : Int32) : ∀ (n : Nat) (x4 : Int32) (x5 : Int32) {res : Int32}, f_X6_worst_I28 μ x1 x2 x3 n x4 x5 = some res → V x (wM x.g a μ) [(0, .ref (a 0)), (1, .int x1), (2, .int x2), (3, .int x3), (4, .int res)] [] 89 → V x (wM x.g a μ) [(0, .ref (a 0)), (1, .int x1), (2, .int x2), (3, .int x3), (4, .int x4), (5, .int x5)] [] 28 := by
  intro n
  induction n with
  | zero =>
    intro x4 x5 res h F
    rw [f_X6_worst_I28] at h
    cases h
  | succ n ih =>
    intro x4 x5 res h F
    rw [f_X6_worst_I28] at h
    refine v_iload X (pc := 28) dX6_worst_28 5 rfl ?_
    refine v_aload_n X (pc := 30) dX6_worst_30 rfl 0 rfl ?_
    refine v_get X (pc := 31) (v := .ref (a 1)) uw6 0 rfl rfl 0 (by decide) q_668 rfl rfl dX6_worst_31 ?_
    refine v_iconst X (pc := 34) (v := 3) dX6_worst_34 (by decide) ?_
    refine v_iald X (pc := 35) (v := ((μ 1) 3)) 1 rfl (ib_in (by decide)) rfl dX6_worst_35 ?_
    refine v_icmpge X (pc := 36) (tgt := 89) dX6_worst_36 (by decide) (fun c => ?_) (fun c => ?_)
    · replace h := hp c h
      replace h := oi h
      subst h
      refine v_sub (L2 := [(0, .ref (a 0)), (1, .int x1), (2, .int x2), (3, .int x3), (4, .int x4)]) [0, 1, 2, 3, 4] rfl ?_
      exact F
    · replace h := hn c h
      refine v_iload X (pc := 39) dX6_worst_39 4 rfl ?_
      refine v_aload_n X (pc := 41) dX6_worst_41 rfl 0 rfl ?_
      refine v_iload X (pc := 42) dX6_worst_42 5 rfl ?_
      obtain ⟨q44, e44, h⟩ := ob h
      refine v_callV X (pc := 44) (st1 := [.int q44, .int x4]) (w' := (wM x.g a μ)) [.int x5] [.int x4] (c_X6_gap x.l x.g a μ x5 e44) rfl rfl cw_X6_gap q_779 q_781 q_30 ⟨by decide, by decide⟩ 0 6 rfl rfl rfl (Fr.all rfl) rfl (Nat.le_of_ble_eq_true rfl) dX6_worst_44 ?_
      refine v_aload_n X (pc := 47) dX6_worst_47 rfl 0 rfl ?_
      refine v_iload_n X (pc := 48) dX6_worst_48 rfl 3 rfl ?_
      obtain ⟨q49, e49, h⟩ := ob h
      refine v_callV X (pc := 49) (st1 := [.int q49, .int q44, .int x4]) (w' := (wM x.g a μ)) [.int x3] [.int q44, .int x4] (c_X6_gap x.l x.g a μ x3 e49) rfl rfl cw_X6_gap q_779 q_781 q_30 ⟨by decide, by decide⟩ 0 6 rfl rfl rfl (Fr.all rfl) rfl (Nat.le_of_ble_eq_true rfl) dX6_worst_49 ?_
      refine v_icmpgt X (pc := 52) (tgt := 75) dX6_worst_52 (by decide) (fun c => ?_) (fun c => ?_)
      · replace h := hp c h
        refine v_iconst X (pc := 75) (v := 1) dX6_worst_75 (by decide) ?_
        refine v_goto X (pc := 76) (tgt := 80) dX6_worst_76 (by decide) ?_
        refine v_iadd X (pc := 80) dX6_worst_80 ?_
        refine v_istore X (pc := 81) (L2 := [(4, .int (x4 + 1)), (0, .ref (a 0)), (1, .int x1), (2, .int x2), (3, .int x3), (5, .int x5)]) dX6_worst_81 (by decide) rfl ?_
        refine v_iinc X (pc := 83) (v := (x5 + 1)) (L2 := [(5, .int (x5 + 1)), (4, .int (x4 + 1)), (0, .ref (a 0)), (1, .int x1), (2, .int x2), (3, .int x3)]) dX6_worst_83 5 rfl (by first | rfl | decide) (by decide) rfl ?_
        refine v_goto X (pc := 86) (tgt := 28) dX6_worst_86 (by decide) ?_
        refine v_sub (L2 := [(0, .ref (a 0)), (1, .int x1), (2, .int x2), (3, .int x3), (4, .int (x4 + 1)), (5, .int (x5 + 1))]) [2, 3, 4, 5, 1, 0] rfl ?_
        exact ih (x4 + 1) (x5 + 1) h F
      · replace h := hn c h
        refine v_aload_n X (pc := 55) dX6_worst_55 rfl 0 rfl ?_
        refine v_iload X (pc := 56) dX6_worst_56 5 rfl ?_
        obtain ⟨q58, e58, h⟩ := ob h
        refine v_callV X (pc := 58) (st1 := [.int q58, .int x4]) (w' := (wM x.g a μ)) [.int x5] [.int x4] (c_X6_gap x.l x.g a μ x5 e58) rfl rfl cw_X6_gap q_779 q_781 q_30 ⟨by decide, by decide⟩ 0 6 rfl rfl rfl (Fr.all rfl) rfl (Nat.le_of_ble_eq_true rfl) dX6_worst_58 ?_
        refine v_aload_n X (pc := 61) dX6_worst_61 rfl 0 rfl ?_
        refine v_iload_n X (pc := 62) dX6_worst_62 rfl 3 rfl ?_
        obtain ⟨q63, e63, h⟩ := ob h
        refine v_callV X (pc := 63) (st1 := [.int q63, .int q58, .int x4]) (w' := (wM x.g a μ)) [.int x3] [.int q58, .int x4] (c_X6_gap x.l x.g a μ x3 e63) rfl rfl cw_X6_gap q_779 q_781 q_30 ⟨by decide, by decide⟩ 0 6 rfl rfl rfl (Fr.all rfl) rfl (Nat.le_of_ble_eq_true rfl) dX6_worst_63 ?_
        refine v_icmpne X (pc := 66) (tgt := 79) dX6_worst_66 (by decide) (fun c => ?_) (fun c => ?_)
        · replace h := hn c h
          refine v_iconst X (pc := 79) (v := 0) dX6_worst_79 (by decide) ?_
          refine v_iadd X (pc := 80) dX6_worst_80 ?_
          refine v_istore X (pc := 81) (L2 := [(4, .int (x4 + 0)), (0, .ref (a 0)), (1, .int x1), (2, .int x2), (3, .int x3), (5, .int x5)]) dX6_worst_81 (by decide) rfl ?_
          refine v_iinc X (pc := 83) (v := (x5 + 1)) (L2 := [(5, .int (x5 + 1)), (4, .int (x4 + 0)), (0, .ref (a 0)), (1, .int x1), (2, .int x2), (3, .int x3)]) dX6_worst_83 5 rfl (by first | rfl | decide) (by decide) rfl ?_
          refine v_goto X (pc := 86) (tgt := 28) dX6_worst_86 (by decide) ?_
          refine v_sub (L2 := [(0, .ref (a 0)), (1, .int x1), (2, .int x2), (3, .int x3), (4, .int (x4 + 0)), (5, .int (x5 + 1))]) [2, 3, 4, 5, 1, 0] rfl ?_
          exact ih (x4 + 0) (x5 + 1) h F
        · replace h := hp c h
          refine v_iload X (pc := 69) dX6_worst_69 5 rfl ?_
          refine v_iload_n X (pc := 71) dX6_worst_71 rfl 3 rfl ?_
          refine v_icmpge X (pc := 72) (tgt := 79) dX6_worst_72 (by decide) (fun c => ?_) (fun c => ?_)
          · replace h := hp c h
            refine v_iconst X (pc := 79) (v := 0) dX6_worst_79 (by decide) ?_
            refine v_iadd X (pc := 80) dX6_worst_80 ?_
            refine v_istore X (pc := 81) (L2 := [(4, .int (x4 + 0)), (0, .ref (a 0)), (1, .int x1), (2, .int x2), (3, .int x3), (5, .int x5)]) dX6_worst_81 (by decide) rfl ?_
            refine v_iinc X (pc := 83) (v := (x5 + 1)) (L2 := [(5, .int (x5 + 1)), (4, .int (x4 + 0)), (0, .ref (a 0)), (1, .int x1), (2, .int x2), (3, .int x3)]) dX6_worst_83 5 rfl (by first | rfl | decide) (by decide) rfl ?_
            refine v_goto X (pc := 86) (tgt := 28) dX6_worst_86 (by decide) ?_
            refine v_sub (L2 := [(0, .ref (a 0)), (1, .int x1), (2, .int x2), (3, .int x3), (4, .int (x4 + 0)), (5, .int (x5 + 1))]) [2, 3, 4, 5, 1, 0] rfl ?_
            exact ih (x4 + 0) (x5 + 1) h F
          · replace h := hn c h
            refine v_iconst X (pc := 75) (v := 1) dX6_worst_75 (by decide) ?_
            refine v_goto X (pc := 76) (tgt := 80) dX6_worst_76 (by decide) ?_
            refine v_iadd X (pc := 80) dX6_worst_80 ?_
            refine v_istore X (pc := 81) (L2 := [(4, .int (x4 + 1)), (0, .ref (a 0)), (1, .int x1), (2, .int x2), (3, .int x3), (5, .int x5)]) dX6_worst_81 (by decide) rfl ?_
            refine v_iinc X (pc := 83) (v := (x5 + 1)) (L2 := [(5, .int (x5 + 1)), (4, .int (x4 + 1)), (0, .ref (a 0)), (1, .int x1), (2, .int x2), (3, .int x3)]) dX6_worst_83 5 rfl (by first | rfl | decide) (by decide) rfl ?_
            refine v_goto X (pc := 86) (tgt := 28) dX6_worst_86 (by decide) ?_
            refine v_sub (L2 := [(0, .ref (a 0)), (1, .int x1), (2, .int x2), (3, .int x3), (4, .int (x4 + 1)), (5, .int (x5 + 1))]) [2, 3, 4, 5, 1, 0] rfl ?_
            exact ih (x4 + 1) (x5 + 1) h F
def f_X6_worst_L12 (μ : Blk) (x1 : Int32) : Nat → Int32 → Int32 → Option (Int32)
  | 0, _, _ => none
  | n + 1, x2, x3 =>
    (if ((μ 1) 3) ≤ x3 then some x2 else (f_X6_worst_I28 μ x1 x2 x3 FU 0 0).bind fun q28 => (if q28 = x1 then (f_X6_gap μ x3).bind fun q97 => (if q97 ≤ 0 then f_X6_worst_L12 μ x1 n x2 (x3 + 1) else f_X6_worst_L12 μ x1 n x3 (x3 + 1)) else f_X6_worst_L12 μ x1 n x2 (x3 + 1)))
set_option maxHeartbeats 4000000 in
set_option maxRecDepth 100000 in
theorem v_X6_worst_L12 {x : Ctx} (X : Cx x RX6 cX6_worst 6 2 44) (a : Nat → Nat) (μ : Blk) (x1 : Int32) : ∀ (n : Nat) (x2 : Int32) (x3 : Int32) {res : Int32}, f_X6_worst_L12 μ x1 n x2 x3 = some res → Fn x (Option.some FieldType.int) (some (.int res)) (wM x.g a μ) → V x (wM x.g a μ) [(0, .ref (a 0)), (1, .int x1), (2, .int x2), (3, .int x3)] [] 12 := by
  intro n
  induction n with
  | zero =>
    intro x2 x3 res h F
    rw [f_X6_worst_L12] at h
    cases h
  | succ n ih =>
    intro x2 x3 res h F
    rw [f_X6_worst_L12] at h
    refine v_iload_n X (pc := 12) dX6_worst_12 rfl 3 rfl ?_
    refine v_aload_n X (pc := 13) dX6_worst_13 rfl 0 rfl ?_
    refine v_get X (pc := 14) (v := .ref (a 1)) uw6 0 rfl rfl 0 (by decide) q_668 rfl rfl dX6_worst_14 ?_
    refine v_iconst X (pc := 17) (v := 3) dX6_worst_17 (by decide) ?_
    refine v_iald X (pc := 18) (v := ((μ 1) 3)) 1 rfl (ib_in (by decide)) rfl dX6_worst_18 ?_
    refine v_icmpge X (pc := 19) (tgt := 115) dX6_worst_19 (by decide) (fun c => ?_) (fun c => ?_)
    · replace h := hp c h
      refine v_iload_n X (pc := 115) dX6_worst_115 rfl 2 rfl ?_
      replace h := oi h
      subst h
      exact v_iret X (pc := 116) F dX6_worst_116
    · replace h := hn c h
      refine v_iconst X (pc := 22) (v := 0) dX6_worst_22 (by decide) ?_
      refine v_istore X (pc := 23) (L2 := [(4, .int 0), (0, .ref (a 0)), (1, .int x1), (2, .int x2), (3, .int x3)]) dX6_worst_23 (by decide) rfl ?_
      refine v_iconst X (pc := 25) (v := 0) dX6_worst_25 (by decide) ?_
      refine v_istore X (pc := 26) (L2 := [(5, .int 0), (4, .int 0), (0, .ref (a 0)), (1, .int x1), (2, .int x2), (3, .int x3)]) dX6_worst_26 (by decide) rfl ?_
      refine v_sub (L2 := [(0, .ref (a 0)), (1, .int x1), (2, .int x2), (3, .int x3), (4, .int 0), (5, .int 0)]) [2, 3, 4, 5, 1, 0] rfl ?_
      obtain ⟨q28, e28, h⟩ := ob h
      refine v_X6_worst_I28 X a μ x1 x2 x3 FU 0 0 e28 ?_
      refine v_iload X (pc := 89) dX6_worst_89 4 rfl ?_
      refine v_iload_n X (pc := 91) dX6_worst_91 rfl 1 rfl ?_
      refine v_icmpne X (pc := 92) (tgt := 107) dX6_worst_92 (by decide) (fun c => ?_) (fun c => ?_)
      · replace h := hn c h
        refine v_iload_n X (pc := 107) dX6_worst_107 rfl 2 rfl ?_
        refine v_istore_n X (pc := 108) (L2 := [(2, .int x2), (0, .ref (a 0)), (1, .int x1), (3, .int x3), (4, .int q28)]) dX6_worst_108 rfl (by decide) rfl ?_
        refine v_iinc X (pc := 109) (v := (x3 + 1)) (L2 := [(3, .int (x3 + 1)), (2, .int x2), (0, .ref (a 0)), (1, .int x1), (4, .int q28)]) dX6_worst_109 3 rfl (by first | rfl | decide) (by decide) rfl ?_
        refine v_goto X (pc := 112) (tgt := 12) dX6_worst_112 (by decide) ?_
        refine v_sub (L2 := [(0, .ref (a 0)), (1, .int x1), (2, .int x2), (3, .int (x3 + 1))]) [2, 3, 1, 0] rfl ?_
        exact ih x2 (x3 + 1) h F
      · replace h := hp c h
        refine v_aload_n X (pc := 95) dX6_worst_95 rfl 0 rfl ?_
        refine v_iload_n X (pc := 96) dX6_worst_96 rfl 3 rfl ?_
        obtain ⟨q97, e97, h⟩ := ob h
        refine v_callV X (pc := 97) (st1 := [.int q97]) (w' := (wM x.g a μ)) [.int x3] [] (c_X6_gap x.l x.g a μ x3 e97) rfl rfl cw_X6_gap q_779 q_781 q_30 ⟨by decide, by decide⟩ 0 6 rfl rfl rfl (Fr.all rfl) rfl (Nat.le_of_ble_eq_true rfl) dX6_worst_97 ?_
        refine v_ifle X (pc := 100) (tgt := 107) dX6_worst_100 (by decide) (fun c => ?_) (fun c => ?_)
        · replace h := hp c h
          refine v_iload_n X (pc := 107) dX6_worst_107 rfl 2 rfl ?_
          refine v_istore_n X (pc := 108) (L2 := [(2, .int x2), (0, .ref (a 0)), (1, .int x1), (3, .int x3), (4, .int q28)]) dX6_worst_108 rfl (by decide) rfl ?_
          refine v_iinc X (pc := 109) (v := (x3 + 1)) (L2 := [(3, .int (x3 + 1)), (2, .int x2), (0, .ref (a 0)), (1, .int x1), (4, .int q28)]) dX6_worst_109 3 rfl (by first | rfl | decide) (by decide) rfl ?_
          refine v_goto X (pc := 112) (tgt := 12) dX6_worst_112 (by decide) ?_
          refine v_sub (L2 := [(0, .ref (a 0)), (1, .int x1), (2, .int x2), (3, .int (x3 + 1))]) [2, 3, 1, 0] rfl ?_
          exact ih x2 (x3 + 1) h F
        · replace h := hn c h
          refine v_iload_n X (pc := 103) dX6_worst_103 rfl 3 rfl ?_
          refine v_goto X (pc := 104) (tgt := 108) dX6_worst_104 (by decide) ?_
          refine v_istore_n X (pc := 108) (L2 := [(2, .int x3), (0, .ref (a 0)), (1, .int x1), (3, .int x3), (4, .int q28)]) dX6_worst_108 rfl (by decide) rfl ?_
          refine v_iinc X (pc := 109) (v := (x3 + 1)) (L2 := [(3, .int (x3 + 1)), (2, .int x3), (0, .ref (a 0)), (1, .int x1), (4, .int q28)]) dX6_worst_109 3 rfl (by first | rfl | decide) (by decide) rfl ?_
          refine v_goto X (pc := 112) (tgt := 12) dX6_worst_112 (by decide) ?_
          refine v_sub (L2 := [(0, .ref (a 0)), (1, .int x1), (2, .int x3), (3, .int (x3 + 1))]) [2, 3, 1, 0] rfl ?_
          exact ih x3 (x3 + 1) h F
def f_X6_worst (μ : Blk) (x1 : Int32) : Option (Int32) :=
  (if 0 ≤ x1 then f_X6_worst_L12 μ x1 FU (-100005) 0 else some (-100002))
set_option maxHeartbeats 4000000 in
set_option maxRecDepth 100000 in
theorem c_X6_worst (l : Launch) (g : Gl) (a : Nat → Nat) (μ : Blk) (x1 : Int32) {res : Int32} (h : f_X6_worst μ x1 = some res) : Ok l g yX6_worst cX6_worst 6 (Option.some FieldType.int) 2 44 [.ref (a 0), .int x1] (wM g a μ) (some (.int res)) (wM g a μ) := by
  refine Ok.of RX6 (by decide) rfl (Nat.le_of_ble_eq_true rfl) (fun x hl hg X F => ?_)
  subst hg; subst hl
  rw [f_X6_worst] at h
  show V x (wM x.g a μ) [(0, .ref (a 0)), (1, .int x1)] [] 0
  refine v_iload_n X (pc := 0) dX6_worst_0 rfl 1 rfl ?_
  refine v_ifge X (pc := 1) (tgt := 7) dX6_worst_1 (by decide) (fun c => ?_) (fun c => ?_)
  · replace h := hp c h
    refine v_ldc X (pc := 7) (v := (-100005)) q_826 dX6_worst_7 ?_
    refine v_istore_n X (pc := 9) (L2 := [(2, .int (-100005)), (0, .ref (a 0)), (1, .int x1)]) dX6_worst_9 rfl (by decide) rfl ?_
    refine v_iconst X (pc := 10) (v := 0) dX6_worst_10 (by decide) ?_
    refine v_istore_n X (pc := 11) (L2 := [(3, .int 0), (2, .int (-100005)), (0, .ref (a 0)), (1, .int x1)]) dX6_worst_11 rfl (by decide) rfl ?_
    refine v_sub (L2 := [(0, .ref (a 0)), (1, .int x1), (2, .int (-100005)), (3, .int 0)]) [2, 3, 1, 0] rfl ?_
    exact v_X6_worst_L12 X a μ x1 FU (-100005) 0 h F
  · replace h := hn c h
    refine v_ldc X (pc := 4) (v := (-100002)) q_711 dX6_worst_4 ?_
    replace h := oi h
    subst h
    exact v_iret X (pc := 6) F dX6_worst_6
theorem cw_X6_worst : CwB yX6_worst cX6_worst 6 (Option.some FieldType.int) 1 := ⟨q_918, q_57, by decide, by decide, by decide +kernel⟩
def f_X6_sumOf_I27 (μ : Blk) (x1 : Int32) (x2 : Int32) (x3 : Int32) (x4 : Int32) : Nat → Int32 → Int32 → Option (Int32)
  | 0, _, _ => none
  | n + 1, x5, x6 =>
    (if 4 ≤ x6 then some x5 else (if ib (((x4 + 4) + (4 * x6)) + 1) 2048 = true then (if ((μ 1) (Int32.toNatClampNeg (((x4 + 4) + (4 * x6)) + 1))) ≤ 0 then f_X6_sumOf_I27 μ x1 x2 x3 x4 n (x5 + 0) (x6 + 1) else f_X6_sumOf_I27 μ x1 x2 x3 x4 n (x5 + 1) (x6 + 1)) else none))
set_option maxHeartbeats 4000000 in
set_option maxRecDepth 100000 in
theorem v_X6_sumOf_I27 {x : Ctx} (X : Cx x RX6 cX6_sumOf 7 2 44) (a : Nat → Nat) (μ : Blk) (x1 : Int32) (x2 : Int32) (x3 : Int32) (x4 : Int32) : ∀ (n : Nat) (x5 : Int32) (x6 : Int32) {res : Int32}, f_X6_sumOf_I27 μ x1 x2 x3 x4 n x5 x6 = some res → V x (wM x.g a μ) [(0, .ref (a 0)), (1, .int x1), (2, .int x2), (3, .int x3), (4, .int x4), (5, .int res)] [] 68 → V x (wM x.g a μ) [(0, .ref (a 0)), (1, .int x1), (2, .int x2), (3, .int x3), (4, .int x4), (5, .int x5), (6, .int x6)] [] 27 := by
  intro n
  induction n with
  | zero =>
    intro x5 x6 res h F
    rw [f_X6_sumOf_I27] at h
    cases h
  | succ n ih =>
    intro x5 x6 res h F
    rw [f_X6_sumOf_I27] at h
    refine v_iload X (pc := 27) dX6_sumOf_27 6 rfl ?_
    refine v_iconst X (pc := 29) (v := 4) dX6_sumOf_29 (by decide) ?_
    refine v_icmpge X (pc := 30) (tgt := 68) dX6_sumOf_30 (by decide) (fun c => ?_) (fun c => ?_)
    · replace h := hp c h
      replace h := oi h
      subst h
      refine v_sub (L2 := [(0, .ref (a 0)), (1, .int x1), (2, .int x2), (3, .int x3), (4, .int x4), (5, .int x5)]) [0, 1, 2, 3, 4, 5] rfl ?_
      exact F
    · replace h := hn c h
      refine v_iload X (pc := 33) dX6_sumOf_33 5 rfl ?_
      refine v_aload_n X (pc := 35) dX6_sumOf_35 rfl 0 rfl ?_
      refine v_get X (pc := 36) (v := .ref (a 1)) uw6 0 rfl rfl 0 (by decide) q_668 rfl rfl dX6_sumOf_36 ?_
      refine v_iload X (pc := 39) dX6_sumOf_39 4 rfl ?_
      refine v_iconst X (pc := 41) (v := 4) dX6_sumOf_41 (by decide) ?_
      refine v_iadd X (pc := 42) dX6_sumOf_42 ?_
      refine v_iconst X (pc := 43) (v := 4) dX6_sumOf_43 (by decide) ?_
      refine v_iload X (pc := 44) dX6_sumOf_44 6 rfl ?_
      refine v_imul X (pc := 46) dX6_sumOf_46 ?_
      refine v_iadd X (pc := 47) dX6_sumOf_47 ?_
      refine v_iconst X (pc := 48) (v := 1) dX6_sumOf_48 (by decide) ?_
      refine v_iadd X (pc := 49) dX6_sumOf_49 ?_
      obtain ⟨g50, h⟩ := og h
      refine v_iald X (pc := 50) (v := ((μ 1) (Int32.toNatClampNeg (((x4 + 4) + (4 * x6)) + 1)))) 1 rfl (ib_in g50) rfl dX6_sumOf_50 ?_
      refine v_ifle X (pc := 51) (tgt := 58) dX6_sumOf_51 (by decide) (fun c => ?_) (fun c => ?_)
      · replace h := hp c h
        refine v_iconst X (pc := 58) (v := 0) dX6_sumOf_58 (by decide) ?_
        refine v_iadd X (pc := 59) dX6_sumOf_59 ?_
        refine v_istore X (pc := 60) (L2 := [(5, .int (x5 + 0)), (0, .ref (a 0)), (1, .int x1), (2, .int x2), (3, .int x3), (4, .int x4), (6, .int x6)]) dX6_sumOf_60 (by decide) rfl ?_
        refine v_iinc X (pc := 62) (v := (x6 + 1)) (L2 := [(6, .int (x6 + 1)), (5, .int (x5 + 0)), (0, .ref (a 0)), (1, .int x1), (2, .int x2), (3, .int x3), (4, .int x4)]) dX6_sumOf_62 6 rfl (by first | rfl | decide) (by decide) rfl ?_
        refine v_goto X (pc := 65) (tgt := 27) dX6_sumOf_65 (by decide) ?_
        refine v_sub (L2 := [(0, .ref (a 0)), (1, .int x1), (2, .int x2), (3, .int x3), (4, .int x4), (5, .int (x5 + 0)), (6, .int (x6 + 1))]) [2, 3, 4, 5, 6, 1, 0] rfl ?_
        exact ih (x5 + 0) (x6 + 1) h F
      · replace h := hn c h
        refine v_iconst X (pc := 54) (v := 1) dX6_sumOf_54 (by decide) ?_
        refine v_goto X (pc := 55) (tgt := 59) dX6_sumOf_55 (by decide) ?_
        refine v_iadd X (pc := 59) dX6_sumOf_59 ?_
        refine v_istore X (pc := 60) (L2 := [(5, .int (x5 + 1)), (0, .ref (a 0)), (1, .int x1), (2, .int x2), (3, .int x3), (4, .int x4), (6, .int x6)]) dX6_sumOf_60 (by decide) rfl ?_
        refine v_iinc X (pc := 62) (v := (x6 + 1)) (L2 := [(6, .int (x6 + 1)), (5, .int (x5 + 1)), (0, .ref (a 0)), (1, .int x1), (2, .int x2), (3, .int x3), (4, .int x4)]) dX6_sumOf_62 6 rfl (by first | rfl | decide) (by decide) rfl ?_
        refine v_goto X (pc := 65) (tgt := 27) dX6_sumOf_65 (by decide) ?_
        refine v_sub (L2 := [(0, .ref (a 0)), (1, .int x1), (2, .int x2), (3, .int x3), (4, .int x4), (5, .int (x5 + 1)), (6, .int (x6 + 1))]) [2, 3, 4, 5, 6, 1, 0] rfl ?_
        exact ih (x5 + 1) (x6 + 1) h F
def f_X6_sumOf_L4 (μ : Blk) (x1 : Int32) : Nat → Int32 → Int32 → Option (Int32)
  | 0, _, _ => none
  | n + 1, x2, x3 =>
    (if ((μ 1) 3) ≤ x3 then some x2 else lt (f_X6_place 0 x3) fun q16 => (f_X6_sumOf_I27 μ x1 x2 x3 q16 FU 0 0).bind fun q27 => (if x1 = 2 then (if ib (q16 + 3) 2048 = true then (if ((μ 1) (Int32.toNatClampNeg (q16 + 3))) ≤ 0 then f_X6_sumOf_L4 μ x1 n (x2 + 0) (x3 + 1) else f_X6_sumOf_L4 μ x1 n (x2 + 1) (x3 + 1)) else none) else (if x1 = 6 then (f_X6_gap μ x3).bind fun q102 => f_X6_sumOf_L4 μ x1 n (x2 + q102) (x3 + 1) else f_X6_sumOf_L4 μ x1 n (x2 + q27) (x3 + 1))))
set_option maxHeartbeats 4000000 in
set_option maxRecDepth 100000 in
theorem v_X6_sumOf_L4 {x : Ctx} (X : Cx x RX6 cX6_sumOf 7 2 44) (a : Nat → Nat) (μ : Blk) (x1 : Int32) : ∀ (n : Nat) (x2 : Int32) (x3 : Int32) {res : Int32}, f_X6_sumOf_L4 μ x1 n x2 x3 = some res → Fn x (Option.some FieldType.int) (some (.int res)) (wM x.g a μ) → V x (wM x.g a μ) [(0, .ref (a 0)), (1, .int x1), (2, .int x2), (3, .int x3)] [] 4 := by
  intro n
  induction n with
  | zero =>
    intro x2 x3 res h F
    rw [f_X6_sumOf_L4] at h
    cases h
  | succ n ih =>
    intro x2 x3 res h F
    rw [f_X6_sumOf_L4] at h
    refine v_iload_n X (pc := 4) dX6_sumOf_4 rfl 3 rfl ?_
    refine v_aload_n X (pc := 5) dX6_sumOf_5 rfl 0 rfl ?_
    refine v_get X (pc := 6) (v := .ref (a 1)) uw6 0 rfl rfl 0 (by decide) q_668 rfl rfl dX6_sumOf_6 ?_
    refine v_iconst X (pc := 9) (v := 3) dX6_sumOf_9 (by decide) ?_
    refine v_iald X (pc := 10) (v := ((μ 1) 3)) 1 rfl (ib_in (by decide)) rfl dX6_sumOf_10 ?_
    refine v_icmpge X (pc := 11) (tgt := 118) dX6_sumOf_11 (by decide) (fun c => ?_) (fun c => ?_)
    · replace h := hp c h
      refine v_iload_n X (pc := 118) dX6_sumOf_118 rfl 2 rfl ?_
      replace h := oi h
      subst h
      exact v_iret X (pc := 119) F dX6_sumOf_119
    · replace h := hn c h
      refine v_iconst X (pc := 14) (v := 0) dX6_sumOf_14 (by decide) ?_
      refine v_iload_n X (pc := 15) dX6_sumOf_15 rfl 3 rfl ?_
      obtain ⟨q16, e16, h⟩ := lts h
      refine v_callS X (pc := 16) (st1 := [.int q16]) (w' := (wM x.g a μ)) [.int 0, .int x3] [] (c_X6_place x.l x.g  0 x3 e16) rfl rfl cw_X6_place q_721 q_722 ⟨by decide, by decide⟩ Fr.nil rfl (Nat.le_of_ble_eq_true rfl) dX6_sumOf_16 ?_
      refine v_istore X (pc := 19) (L2 := [(4, .int q16), (0, .ref (a 0)), (1, .int x1), (2, .int x2), (3, .int x3)]) dX6_sumOf_19 (by decide) rfl ?_
      refine v_iconst X (pc := 21) (v := 0) dX6_sumOf_21 (by decide) ?_
      refine v_istore X (pc := 22) (L2 := [(5, .int 0), (4, .int q16), (0, .ref (a 0)), (1, .int x1), (2, .int x2), (3, .int x3)]) dX6_sumOf_22 (by decide) rfl ?_
      refine v_iconst X (pc := 24) (v := 0) dX6_sumOf_24 (by decide) ?_
      refine v_istore X (pc := 25) (L2 := [(6, .int 0), (5, .int 0), (4, .int q16), (0, .ref (a 0)), (1, .int x1), (2, .int x2), (3, .int x3)]) dX6_sumOf_25 (by decide) rfl ?_
      refine v_sub (L2 := [(0, .ref (a 0)), (1, .int x1), (2, .int x2), (3, .int x3), (4, .int q16), (5, .int 0), (6, .int 0)]) [3, 4, 5, 6, 2, 1, 0] rfl ?_
      obtain ⟨q27, e27, h⟩ := ob h
      refine v_X6_sumOf_I27 X a μ x1 x2 x3 q16 FU 0 0 e27 ?_
      refine v_iload_n X (pc := 68) dX6_sumOf_68 rfl 2 rfl ?_
      refine v_iload_n X (pc := 69) dX6_sumOf_69 rfl 1 rfl ?_
      refine v_iconst X (pc := 70) (v := 2) dX6_sumOf_70 (by decide) ?_
      refine v_icmpne X (pc := 71) (tgt := 94) dX6_sumOf_71 (by decide) (fun c => ?_) (fun c => ?_)
      · replace h := hn c h
        refine v_iload_n X (pc := 94) dX6_sumOf_94 rfl 1 rfl ?_
        refine v_bipush X (pc := 95) (v := 6) dX6_sumOf_95 (by decide) ?_
        refine v_icmpne X (pc := 97) (tgt := 108) dX6_sumOf_97 (by decide) (fun c => ?_) (fun c => ?_)
        · replace h := hn c h
          refine v_iload X (pc := 108) dX6_sumOf_108 5 rfl ?_
          refine v_iadd X (pc := 110) dX6_sumOf_110 ?_
          refine v_istore_n X (pc := 111) (L2 := [(2, .int (x2 + q27)), (0, .ref (a 0)), (1, .int x1), (3, .int x3), (4, .int q16), (5, .int q27)]) dX6_sumOf_111 rfl (by decide) rfl ?_
          refine v_iinc X (pc := 112) (v := (x3 + 1)) (L2 := [(3, .int (x3 + 1)), (2, .int (x2 + q27)), (0, .ref (a 0)), (1, .int x1), (4, .int q16), (5, .int q27)]) dX6_sumOf_112 3 rfl (by first | rfl | decide) (by decide) rfl ?_
          refine v_goto X (pc := 115) (tgt := 4) dX6_sumOf_115 (by decide) ?_
          refine v_sub (L2 := [(0, .ref (a 0)), (1, .int x1), (2, .int (x2 + q27)), (3, .int (x3 + 1))]) [2, 3, 1, 0] rfl ?_
          exact ih (x2 + q27) (x3 + 1) h F
        · replace h := hp c h
          refine v_aload_n X (pc := 100) dX6_sumOf_100 rfl 0 rfl ?_
          refine v_iload_n X (pc := 101) dX6_sumOf_101 rfl 3 rfl ?_
          obtain ⟨q102, e102, h⟩ := ob h
          refine v_callV X (pc := 102) (st1 := [.int q102, .int x2]) (w' := (wM x.g a μ)) [.int x3] [.int x2] (c_X6_gap x.l x.g a μ x3 e102) rfl rfl cw_X6_gap q_779 q_781 q_30 ⟨by decide, by decide⟩ 0 6 rfl rfl rfl (Fr.all rfl) rfl (Nat.le_of_ble_eq_true rfl) dX6_sumOf_102 ?_
          refine v_goto X (pc := 105) (tgt := 110) dX6_sumOf_105 (by decide) ?_
          refine v_iadd X (pc := 110) dX6_sumOf_110 ?_
          refine v_istore_n X (pc := 111) (L2 := [(2, .int (x2 + q102)), (0, .ref (a 0)), (1, .int x1), (3, .int x3), (4, .int q16), (5, .int q27)]) dX6_sumOf_111 rfl (by decide) rfl ?_
          refine v_iinc X (pc := 112) (v := (x3 + 1)) (L2 := [(3, .int (x3 + 1)), (2, .int (x2 + q102)), (0, .ref (a 0)), (1, .int x1), (4, .int q16), (5, .int q27)]) dX6_sumOf_112 3 rfl (by first | rfl | decide) (by decide) rfl ?_
          refine v_goto X (pc := 115) (tgt := 4) dX6_sumOf_115 (by decide) ?_
          refine v_sub (L2 := [(0, .ref (a 0)), (1, .int x1), (2, .int (x2 + q102)), (3, .int (x3 + 1))]) [2, 3, 1, 0] rfl ?_
          exact ih (x2 + q102) (x3 + 1) h F
      · replace h := hp c h
        refine v_aload_n X (pc := 74) dX6_sumOf_74 rfl 0 rfl ?_
        refine v_get X (pc := 75) (v := .ref (a 1)) uw6 0 rfl rfl 0 (by decide) q_668 rfl rfl dX6_sumOf_75 ?_
        refine v_iload X (pc := 78) dX6_sumOf_78 4 rfl ?_
        refine v_iconst X (pc := 80) (v := 3) dX6_sumOf_80 (by decide) ?_
        refine v_iadd X (pc := 81) dX6_sumOf_81 ?_
        obtain ⟨g82, h⟩ := og h
        refine v_iald X (pc := 82) (v := ((μ 1) (Int32.toNatClampNeg (q16 + 3)))) 1 rfl (ib_in g82) rfl dX6_sumOf_82 ?_
        refine v_ifle X (pc := 83) (tgt := 90) dX6_sumOf_83 (by decide) (fun c => ?_) (fun c => ?_)
        · replace h := hp c h
          refine v_iconst X (pc := 90) (v := 0) dX6_sumOf_90 (by decide) ?_
          refine v_goto X (pc := 91) (tgt := 110) dX6_sumOf_91 (by decide) ?_
          refine v_iadd X (pc := 110) dX6_sumOf_110 ?_
          refine v_istore_n X (pc := 111) (L2 := [(2, .int (x2 + 0)), (0, .ref (a 0)), (1, .int x1), (3, .int x3), (4, .int q16), (5, .int q27)]) dX6_sumOf_111 rfl (by decide) rfl ?_
          refine v_iinc X (pc := 112) (v := (x3 + 1)) (L2 := [(3, .int (x3 + 1)), (2, .int (x2 + 0)), (0, .ref (a 0)), (1, .int x1), (4, .int q16), (5, .int q27)]) dX6_sumOf_112 3 rfl (by first | rfl | decide) (by decide) rfl ?_
          refine v_goto X (pc := 115) (tgt := 4) dX6_sumOf_115 (by decide) ?_
          refine v_sub (L2 := [(0, .ref (a 0)), (1, .int x1), (2, .int (x2 + 0)), (3, .int (x3 + 1))]) [2, 3, 1, 0] rfl ?_
          exact ih (x2 + 0) (x3 + 1) h F
        · replace h := hn c h
          refine v_iconst X (pc := 86) (v := 1) dX6_sumOf_86 (by decide) ?_
          refine v_goto X (pc := 87) (tgt := 110) dX6_sumOf_87 (by decide) ?_
          refine v_iadd X (pc := 110) dX6_sumOf_110 ?_
          refine v_istore_n X (pc := 111) (L2 := [(2, .int (x2 + 1)), (0, .ref (a 0)), (1, .int x1), (3, .int x3), (4, .int q16), (5, .int q27)]) dX6_sumOf_111 rfl (by decide) rfl ?_
          refine v_iinc X (pc := 112) (v := (x3 + 1)) (L2 := [(3, .int (x3 + 1)), (2, .int (x2 + 1)), (0, .ref (a 0)), (1, .int x1), (4, .int q16), (5, .int q27)]) dX6_sumOf_112 3 rfl (by first | rfl | decide) (by decide) rfl ?_
          refine v_goto X (pc := 115) (tgt := 4) dX6_sumOf_115 (by decide) ?_
          refine v_sub (L2 := [(0, .ref (a 0)), (1, .int x1), (2, .int (x2 + 1)), (3, .int (x3 + 1))]) [2, 3, 1, 0] rfl ?_
          exact ih (x2 + 1) (x3 + 1) h F
def f_X6_sumOf (μ : Blk) (x1 : Int32) : Option (Int32) :=
  f_X6_sumOf_L4 μ x1 FU 0 0
set_option maxHeartbeats 4000000 in
set_option maxRecDepth 100000 in
theorem c_X6_sumOf (l : Launch) (g : Gl) (a : Nat → Nat) (μ : Blk) (x1 : Int32) {res : Int32} (h : f_X6_sumOf μ x1 = some res) : Ok l g yX6_sumOf cX6_sumOf 7 (Option.some FieldType.int) 2 44 [.ref (a 0), .int x1] (wM g a μ) (some (.int res)) (wM g a μ) := by
  refine Ok.of RX6 (by decide) rfl (Nat.le_of_ble_eq_true rfl) (fun x hl hg X F => ?_)
  subst hg; subst hl
  rw [f_X6_sumOf] at h
  show V x (wM x.g a μ) [(0, .ref (a 0)), (1, .int x1)] [] 0
  refine v_iconst X (pc := 0) (v := 0) dX6_sumOf_0 (by decide) ?_
  refine v_istore_n X (pc := 1) (L2 := [(2, .int 0), (0, .ref (a 0)), (1, .int x1)]) dX6_sumOf_1 rfl (by decide) rfl ?_
  refine v_iconst X (pc := 2) (v := 0) dX6_sumOf_2 (by decide) ?_
  refine v_istore_n X (pc := 3) (L2 := [(3, .int 0), (2, .int 0), (0, .ref (a 0)), (1, .int x1)]) dX6_sumOf_3 rfl (by decide) rfl ?_
  refine v_sub (L2 := [(0, .ref (a 0)), (1, .int x1), (2, .int 0), (3, .int 0)]) [2, 3, 1, 0] rfl ?_
  exact v_X6_sumOf_L4 X a μ x1 FU 0 0 h F
theorem cw_X6_sumOf : CwB yX6_sumOf cX6_sumOf 7 (Option.some FieldType.int) 1 := ⟨q_926, q_57, by decide, by decide, by decide +kernel⟩
def f_X6_allTold_L4 (μ : Blk) (x1 : Bool) : Nat → Int32 → Int32 → Option (Int32)
  | 0, _, _ => none
  | n + 1, x2, x3 =>
    (if 6 ≤ x3 then some x2 else (f_X6_told μ x3 x1).bind fun q14 => f_X6_allTold_L4 μ x1 n (x2 + q14) (x3 + 1))
set_option maxHeartbeats 4000000 in
set_option maxRecDepth 100000 in
theorem v_X6_allTold_L4 {x : Ctx} (X : Cx x RX6 cX6_allTold 4 2 47) (a : Nat → Nat) (μ : Blk) (x1 : Bool) : ∀ (n : Nat) (x2 : Int32) (x3 : Int32) {res : Int32}, f_X6_allTold_L4 μ x1 n x2 x3 = some res → Fn x (Option.some FieldType.int) (some (.int res)) (wM x.g a μ) → V x (wM x.g a μ) [(0, .ref (a 0)), (1, .int (b2i x1)), (2, .int x2), (3, .int x3)] [] 4 := by
  intro n
  induction n with
  | zero =>
    intro x2 x3 res h F
    rw [f_X6_allTold_L4] at h
    cases h
  | succ n ih =>
    intro x2 x3 res h F
    rw [f_X6_allTold_L4] at h
    refine v_iload_n X (pc := 4) dX6_allTold_4 rfl 3 rfl ?_
    refine v_bipush X (pc := 5) (v := 6) dX6_allTold_5 (by decide) ?_
    refine v_icmpge X (pc := 7) (tgt := 25) dX6_allTold_7 (by decide) (fun c => ?_) (fun c => ?_)
    · replace h := hp c h
      refine v_iload_n X (pc := 25) dX6_allTold_25 rfl 2 rfl ?_
      replace h := oi h
      subst h
      exact v_iret X (pc := 26) F dX6_allTold_26
    · replace h := hn c h
      refine v_iload_n X (pc := 10) dX6_allTold_10 rfl 2 rfl ?_
      refine v_aload_n X (pc := 11) dX6_allTold_11 rfl 0 rfl ?_
      refine v_iload_n X (pc := 12) dX6_allTold_12 rfl 3 rfl ?_
      refine v_iload_n X (pc := 13) dX6_allTold_13 rfl 1 rfl ?_
      obtain ⟨q14, e14, h⟩ := ob h
      refine v_callV X (pc := 14) (st1 := [.int q14, .int x2]) (w' := (wM x.g a μ)) [.int x3, .int (b2i x1)] [.int x2] (c_X6_told x.l x.g a μ x3 x1 e14) rfl rfl cw_X6_told q_891 q_893 q_44 ⟨by decide, by decide⟩ 0 6 rfl rfl rfl (Fr.all rfl) rfl (Nat.le_of_ble_eq_true rfl) dX6_allTold_14 ?_
      refine v_iadd X (pc := 17) dX6_allTold_17 ?_
      refine v_istore_n X (pc := 18) (L2 := [(2, .int (x2 + q14)), (0, .ref (a 0)), (1, .int (b2i x1)), (3, .int x3)]) dX6_allTold_18 rfl (by decide) rfl ?_
      refine v_iinc X (pc := 19) (v := (x3 + 1)) (L2 := [(3, .int (x3 + 1)), (2, .int (x2 + q14)), (0, .ref (a 0)), (1, .int (b2i x1))]) dX6_allTold_19 3 rfl (by first | rfl | decide) (by decide) rfl ?_
      refine v_goto X (pc := 22) (tgt := 4) dX6_allTold_22 (by decide) ?_
      refine v_sub (L2 := [(0, .ref (a 0)), (1, .int (b2i x1)), (2, .int (x2 + q14)), (3, .int (x3 + 1))]) [2, 3, 1, 0] rfl ?_
      exact ih (x2 + q14) (x3 + 1) h F
def f_X6_allTold (μ : Blk) (x1 : Bool) : Option (Int32) :=
  f_X6_allTold_L4 μ x1 FU 0 1
set_option maxHeartbeats 4000000 in
set_option maxRecDepth 100000 in
theorem c_X6_allTold (l : Launch) (g : Gl) (a : Nat → Nat) (μ : Blk) (x1 : Bool) {res : Int32} (h : f_X6_allTold μ x1 = some res) : Ok l g yX6_allTold cX6_allTold 4 (Option.some FieldType.int) 2 47 [.ref (a 0), .int (b2i x1)] (wM g a μ) (some (.int res)) (wM g a μ) := by
  refine Ok.of RX6 (by decide) rfl (Nat.le_of_ble_eq_true rfl) (fun x hl hg X F => ?_)
  subst hg; subst hl
  rw [f_X6_allTold] at h
  show V x (wM x.g a μ) [(0, .ref (a 0)), (1, .int (b2i x1))] [] 0
  refine v_iconst X (pc := 0) (v := 0) dX6_allTold_0 (by decide) ?_
  refine v_istore_n X (pc := 1) (L2 := [(2, .int 0), (0, .ref (a 0)), (1, .int (b2i x1))]) dX6_allTold_1 rfl (by decide) rfl ?_
  refine v_iconst X (pc := 2) (v := 1) dX6_allTold_2 (by decide) ?_
  refine v_istore_n X (pc := 3) (L2 := [(3, .int 1), (2, .int 0), (0, .ref (a 0)), (1, .int (b2i x1))]) dX6_allTold_3 rfl (by decide) rfl ?_
  refine v_sub (L2 := [(0, .ref (a 0)), (1, .int (b2i x1)), (2, .int 0), (3, .int 1)]) [2, 3, 1, 0] rfl ?_
  exact v_X6_allTold_L4 X a μ x1 FU 0 1 h F
theorem cw_X6_allTold : CwB yX6_allTold cX6_allTold 4 (Option.some FieldType.int) 1 := ⟨q_930, q_57, by decide, by decide, by decide +kernel⟩
def f_X6_fullest_L4 (μ : Blk) : Nat → Int32 → Int32 → Option (Int32)
  | 0, _, _ => none
  | n + 1, x1, x2 =>
    (if 6 ≤ x2 then some x1 else (if ib (4 + x2) 2048 = true then (if ib (10 + x2) 2048 = true then (if ib (4 + x1) 2048 = true then (if ib (10 + x1) 2048 = true then (if (((μ 1) (Int32.toNatClampNeg (4 + x1))) - ((μ 1) (Int32.toNatClampNeg (10 + x1)))) ≤ (((μ 1) (Int32.toNatClampNeg (4 + x2))) - ((μ 1) (Int32.toNatClampNeg (10 + x2)))) then f_X6_fullest_L4 μ n x1 (x2 + 1) else f_X6_fullest_L4 μ n x2 (x2 + 1)) else none) else none) else none) else none))
set_option maxHeartbeats 4000000 in
set_option maxRecDepth 100000 in
theorem v_X6_fullest_L4 {x : Ctx} (X : Cx x RX6 cX6_fullest 3 0 0) (a : Nat → Nat) (μ : Blk) : ∀ (n : Nat) (x1 : Int32) (x2 : Int32) {res : Int32}, f_X6_fullest_L4 μ n x1 x2 = some res → Fn x (Option.some FieldType.int) (some (.int res)) (wM x.g a μ) → V x (wM x.g a μ) [(0, .ref (a 0)), (1, .int x1), (2, .int x2)] [] 4 := by
  intro n
  induction n with
  | zero =>
    intro x1 x2 res h F
    rw [f_X6_fullest_L4] at h
    cases h
  | succ n ih =>
    intro x1 x2 res h F
    rw [f_X6_fullest_L4] at h
    refine v_iload_n X (pc := 4) dX6_fullest_4 rfl 2 rfl ?_
    refine v_bipush X (pc := 5) (v := 6) dX6_fullest_5 (by decide) ?_
    refine v_icmpge X (pc := 7) (tgt := 61) dX6_fullest_7 (by decide) (fun c => ?_) (fun c => ?_)
    · replace h := hp c h
      refine v_iload_n X (pc := 61) dX6_fullest_61 rfl 1 rfl ?_
      replace h := oi h
      subst h
      exact v_iret X (pc := 62) F dX6_fullest_62
    · replace h := hn c h
      refine v_aload_n X (pc := 10) dX6_fullest_10 rfl 0 rfl ?_
      refine v_get X (pc := 11) (v := .ref (a 1)) uw6 0 rfl rfl 0 (by decide) q_668 rfl rfl dX6_fullest_11 ?_
      refine v_iconst X (pc := 14) (v := 4) dX6_fullest_14 (by decide) ?_
      refine v_iload_n X (pc := 15) dX6_fullest_15 rfl 2 rfl ?_
      refine v_iadd X (pc := 16) dX6_fullest_16 ?_
      obtain ⟨g17, h⟩ := og h
      refine v_iald X (pc := 17) (v := ((μ 1) (Int32.toNatClampNeg (4 + x2)))) 1 rfl (ib_in g17) rfl dX6_fullest_17 ?_
      refine v_aload_n X (pc := 18) dX6_fullest_18 rfl 0 rfl ?_
      refine v_get X (pc := 19) (v := .ref (a 1)) uw6 0 rfl rfl 0 (by decide) q_668 rfl rfl dX6_fullest_19 ?_
      refine v_bipush X (pc := 22) (v := 10) dX6_fullest_22 (by decide) ?_
      refine v_iload_n X (pc := 24) dX6_fullest_24 rfl 2 rfl ?_
      refine v_iadd X (pc := 25) dX6_fullest_25 ?_
      obtain ⟨g26, h⟩ := og h
      refine v_iald X (pc := 26) (v := ((μ 1) (Int32.toNatClampNeg (10 + x2)))) 1 rfl (ib_in g26) rfl dX6_fullest_26 ?_
      refine v_isub X (pc := 27) dX6_fullest_27 ?_
      refine v_aload_n X (pc := 28) dX6_fullest_28 rfl 0 rfl ?_
      refine v_get X (pc := 29) (v := .ref (a 1)) uw6 0 rfl rfl 0 (by decide) q_668 rfl rfl dX6_fullest_29 ?_
      refine v_iconst X (pc := 32) (v := 4) dX6_fullest_32 (by decide) ?_
      refine v_iload_n X (pc := 33) dX6_fullest_33 rfl 1 rfl ?_
      refine v_iadd X (pc := 34) dX6_fullest_34 ?_
      obtain ⟨g35, h⟩ := og h
      refine v_iald X (pc := 35) (v := ((μ 1) (Int32.toNatClampNeg (4 + x1)))) 1 rfl (ib_in g35) rfl dX6_fullest_35 ?_
      refine v_aload_n X (pc := 36) dX6_fullest_36 rfl 0 rfl ?_
      refine v_get X (pc := 37) (v := .ref (a 1)) uw6 0 rfl rfl 0 (by decide) q_668 rfl rfl dX6_fullest_37 ?_
      refine v_bipush X (pc := 40) (v := 10) dX6_fullest_40 (by decide) ?_
      refine v_iload_n X (pc := 42) dX6_fullest_42 rfl 1 rfl ?_
      refine v_iadd X (pc := 43) dX6_fullest_43 ?_
      obtain ⟨g44, h⟩ := og h
      refine v_iald X (pc := 44) (v := ((μ 1) (Int32.toNatClampNeg (10 + x1)))) 1 rfl (ib_in g44) rfl dX6_fullest_44 ?_
      refine v_isub X (pc := 45) dX6_fullest_45 ?_
      refine v_icmpge X (pc := 46) (tgt := 53) dX6_fullest_46 (by decide) (fun c => ?_) (fun c => ?_)
      · replace h := hp c h
        refine v_iload_n X (pc := 53) dX6_fullest_53 rfl 1 rfl ?_
        refine v_istore_n X (pc := 54) (L2 := [(1, .int x1), (0, .ref (a 0)), (2, .int x2)]) dX6_fullest_54 rfl (by decide) rfl ?_
        refine v_iinc X (pc := 55) (v := (x2 + 1)) (L2 := [(2, .int (x2 + 1)), (1, .int x1), (0, .ref (a 0))]) dX6_fullest_55 2 rfl (by first | rfl | decide) (by decide) rfl ?_
        refine v_goto X (pc := 58) (tgt := 4) dX6_fullest_58 (by decide) ?_
        refine v_sub (L2 := [(0, .ref (a 0)), (1, .int x1), (2, .int (x2 + 1))]) [2, 1, 0] rfl ?_
        exact ih x1 (x2 + 1) h F
      · replace h := hn c h
        refine v_iload_n X (pc := 49) dX6_fullest_49 rfl 2 rfl ?_
        refine v_goto X (pc := 50) (tgt := 54) dX6_fullest_50 (by decide) ?_
        refine v_istore_n X (pc := 54) (L2 := [(1, .int x2), (0, .ref (a 0)), (2, .int x2)]) dX6_fullest_54 rfl (by decide) rfl ?_
        refine v_iinc X (pc := 55) (v := (x2 + 1)) (L2 := [(2, .int (x2 + 1)), (1, .int x2), (0, .ref (a 0))]) dX6_fullest_55 2 rfl (by first | rfl | decide) (by decide) rfl ?_
        refine v_goto X (pc := 58) (tgt := 4) dX6_fullest_58 (by decide) ?_
        refine v_sub (L2 := [(0, .ref (a 0)), (1, .int x2), (2, .int (x2 + 1))]) [2, 1, 0] rfl ?_
        exact ih x2 (x2 + 1) h F
def f_X6_fullest (μ : Blk) : Option (Int32) :=
  f_X6_fullest_L4 μ FU 1 2
set_option maxHeartbeats 4000000 in
set_option maxRecDepth 100000 in
theorem c_X6_fullest (l : Launch) (g : Gl) (a : Nat → Nat) (μ : Blk) {res : Int32} (h : f_X6_fullest μ = some res) : Ok l g yX6_fullest cX6_fullest 3 (Option.some FieldType.int) 0 0 [.ref (a 0)] (wM g a μ) (some (.int res)) (wM g a μ) := by
  refine Ok.of RX6 (by decide) rfl (Nat.le_of_ble_eq_true rfl) (fun x hl hg X F => ?_)
  subst hg; subst hl
  rw [f_X6_fullest] at h
  show V x (wM x.g a μ) [(0, .ref (a 0))] [] 0
  refine v_iconst X (pc := 0) (v := 1) dX6_fullest_0 (by decide) ?_
  refine v_istore_n X (pc := 1) (L2 := [(1, .int 1), (0, .ref (a 0))]) dX6_fullest_1 rfl (by decide) rfl ?_
  refine v_iconst X (pc := 2) (v := 2) dX6_fullest_2 (by decide) ?_
  refine v_istore_n X (pc := 3) (L2 := [(2, .int 2), (1, .int 1), (0, .ref (a 0))]) dX6_fullest_3 rfl (by decide) rfl ?_
  refine v_sub (L2 := [(0, .ref (a 0)), (1, .int 1), (2, .int 2)]) [2, 1, 0] rfl ?_
  exact v_X6_fullest_L4 X a μ FU 1 2 h F
theorem cw_X6_fullest : CwB yX6_fullest cX6_fullest 3 (Option.some FieldType.int) 0 := ⟨q_934, q_57, by decide, by decide, by decide +kernel⟩
def f_X6_count (μ : Blk) (x1 : Int32) : Option (Int32) :=
  (if x1 = 0 then some ((μ 1) 2) else (if x1 = 1 then some ((μ 1) 3) else (if x1 = 2 then (f_X6_sumOf μ x1).bind fun q84 => some q84 else (if x1 = 3 then (f_X6_people μ 0).bind fun q90 => some q90 else (if x1 = 4 then (f_X6_allTold μ true).bind fun q96 => some q96 else (if x1 = 5 then (f_X6_allTold μ false).bind fun q102 => some q102 else (if x1 = 6 then (f_X6_sumOf μ x1).bind fun q84 => some q84 else (if x1 = 7 then (f_X6_sumOf μ x1).bind fun q84 => some q84 else (if x1 = 8 then (f_X6_fullest μ).bind fun q107 => some q107 else (if x1 = 9 then some ((μ 1) 0) else (if x1 = 10 then some ((μ 1) 1) else (if x1 = 11 then some (μ 0 0) else (if x1 = 12 then some (μ 0 2) else some (-100002))))))))))))))
set_option maxHeartbeats 4000000 in
set_option maxRecDepth 100000 in
theorem c_X6_count (l : Launch) (g : Gl) (a : Nat → Nat) (μ : Blk) (x1 : Int32) {res : Int32} (h : f_X6_count μ x1 = some res) : Ok l g yX6_count cX6_count 2 (Option.some FieldType.int) 3 70 [.ref (a 0), .int x1] (wM g a μ) (some (.int res)) (wM g a μ) := by
  refine Ok.of RX6 (by decide) rfl (Nat.le_of_ble_eq_true rfl) (fun x hl hg X F => ?_)
  subst hg; subst hl
  rw [f_X6_count] at h
  show V x (wM x.g a μ) [(0, .ref (a 0)), (1, .int x1)] [] 0
  refine v_iload_n X (pc := 0) dX6_count_0 rfl 1 rfl ?_
  by_cases t0 : x1 = 0
  · replace h := hp t0 h
    refine v_tswIn X (pc := 1) (tgt := 68) (off := 67) dX6_count_1 (by rw [t0]; decide) (by rw [t0]; decide) (by rw [t0]; decide) (by decide) ?_
    refine v_aload_n X (pc := 68) dX6_count_68 rfl 0 rfl ?_
    refine v_get X (pc := 69) (v := .ref (a 1)) uw6 0 rfl rfl 0 (by decide) q_668 rfl rfl dX6_count_69 ?_
    refine v_iconst X (pc := 72) (v := 2) dX6_count_72 (by decide) ?_
    refine v_iald X (pc := 73) (v := ((μ 1) 2)) 1 rfl (ib_in (by decide)) rfl dX6_count_73 ?_
    replace h := oi h
    subst h
    exact v_iret X (pc := 74) F dX6_count_74
  · replace h := hn t0 h
    by_cases t1 : x1 = 1
    · replace h := hp t1 h
      refine v_tswIn X (pc := 1) (tgt := 75) (off := 74) dX6_count_1 (by rw [t1]; decide) (by rw [t1]; decide) (by rw [t1]; decide) (by decide) ?_
      refine v_aload_n X (pc := 75) dX6_count_75 rfl 0 rfl ?_
      refine v_get X (pc := 76) (v := .ref (a 1)) uw6 0 rfl rfl 0 (by decide) q_668 rfl rfl dX6_count_76 ?_
      refine v_iconst X (pc := 79) (v := 3) dX6_count_79 (by decide) ?_
      refine v_iald X (pc := 80) (v := ((μ 1) 3)) 1 rfl (ib_in (by decide)) rfl dX6_count_80 ?_
      replace h := oi h
      subst h
      exact v_iret X (pc := 81) F dX6_count_81
    · replace h := hn t1 h
      by_cases t2 : x1 = 2
      · replace h := hp t2 h
        refine v_tswIn X (pc := 1) (tgt := 82) (off := 81) dX6_count_1 (by rw [t2]; decide) (by rw [t2]; decide) (by rw [t2]; decide) (by decide) ?_
        refine v_aload_n X (pc := 82) dX6_count_82 rfl 0 rfl ?_
        refine v_iload_n X (pc := 83) dX6_count_83 rfl 1 rfl ?_
        obtain ⟨q84, e84, h⟩ := ob h
        refine v_callV X (pc := 84) (st1 := [.int q84]) (w' := (wM x.g a μ)) [.int x1] [] (c_X6_sumOf x.l x.g a μ x1 e84) rfl rfl cw_X6_sumOf q_923 q_925 q_47 ⟨by decide, by decide⟩ 0 6 rfl rfl rfl (Fr.all rfl) rfl (Nat.le_of_ble_eq_true rfl) dX6_count_84 ?_
        replace h := oi h
        subst h
        exact v_iret X (pc := 87) F dX6_count_87
      · replace h := hn t2 h
        by_cases t3 : x1 = 3
        · replace h := hp t3 h
          refine v_tswIn X (pc := 1) (tgt := 88) (off := 87) dX6_count_1 (by rw [t3]; decide) (by rw [t3]; decide) (by rw [t3]; decide) (by decide) ?_
          refine v_aload_n X (pc := 88) dX6_count_88 rfl 0 rfl ?_
          refine v_iconst X (pc := 89) (v := 0) dX6_count_89 (by decide) ?_
          obtain ⟨q90, e90, h⟩ := ob h
          refine v_callV X (pc := 90) (st1 := [.int q90]) (w' := (wM x.g a μ)) [.int 0] [] (c_X6_people x.l x.g a μ 0 e90) rfl rfl cw_X6_people q_831 q_833 q_38 ⟨by decide, by decide⟩ 0 6 rfl rfl rfl (Fr.all rfl) rfl (Nat.le_of_ble_eq_true rfl) dX6_count_90 ?_
          replace h := oi h
          subst h
          exact v_iret X (pc := 93) F dX6_count_93
        · replace h := hn t3 h
          by_cases t4 : x1 = 4
          · replace h := hp t4 h
            refine v_tswIn X (pc := 1) (tgt := 94) (off := 93) dX6_count_1 (by rw [t4]; decide) (by rw [t4]; decide) (by rw [t4]; decide) (by decide) ?_
            refine v_aload_n X (pc := 94) dX6_count_94 rfl 0 rfl ?_
            refine v_iconst X (pc := 95) (v := 1) dX6_count_95 (by decide) ?_
            obtain ⟨q96, e96, h⟩ := ob h
            refine v_callV X (pc := 96) (st1 := [.int q96]) (w' := (wM x.g a μ)) [.int (b2i true)] [] (c_X6_allTold x.l x.g a μ true e96) rfl rfl cw_X6_allTold q_927 q_929 q_48 ⟨by decide, by decide⟩ 0 6 rfl rfl rfl (Fr.all rfl) rfl (Nat.le_of_ble_eq_true rfl) dX6_count_96 ?_
            replace h := oi h
            subst h
            exact v_iret X (pc := 99) F dX6_count_99
          · replace h := hn t4 h
            by_cases t5 : x1 = 5
            · replace h := hp t5 h
              refine v_tswIn X (pc := 1) (tgt := 100) (off := 99) dX6_count_1 (by rw [t5]; decide) (by rw [t5]; decide) (by rw [t5]; decide) (by decide) ?_
              refine v_aload_n X (pc := 100) dX6_count_100 rfl 0 rfl ?_
              refine v_iconst X (pc := 101) (v := 0) dX6_count_101 (by decide) ?_
              obtain ⟨q102, e102, h⟩ := ob h
              refine v_callV X (pc := 102) (st1 := [.int q102]) (w' := (wM x.g a μ)) [.int (b2i false)] [] (c_X6_allTold x.l x.g a μ false e102) rfl rfl cw_X6_allTold q_927 q_929 q_48 ⟨by decide, by decide⟩ 0 6 rfl rfl rfl (Fr.all rfl) rfl (Nat.le_of_ble_eq_true rfl) dX6_count_102 ?_
              replace h := oi h
              subst h
              exact v_iret X (pc := 105) F dX6_count_105
            · replace h := hn t5 h
              by_cases t6 : x1 = 6
              · replace h := hp t6 h
                refine v_tswIn X (pc := 1) (tgt := 82) (off := 81) dX6_count_1 (by rw [t6]; decide) (by rw [t6]; decide) (by rw [t6]; decide) (by decide) ?_
                refine v_aload_n X (pc := 82) dX6_count_82 rfl 0 rfl ?_
                refine v_iload_n X (pc := 83) dX6_count_83 rfl 1 rfl ?_
                obtain ⟨q84, e84, h⟩ := ob h
                refine v_callV X (pc := 84) (st1 := [.int q84]) (w' := (wM x.g a μ)) [.int x1] [] (c_X6_sumOf x.l x.g a μ x1 e84) rfl rfl cw_X6_sumOf q_923 q_925 q_47 ⟨by decide, by decide⟩ 0 6 rfl rfl rfl (Fr.all rfl) rfl (Nat.le_of_ble_eq_true rfl) dX6_count_84 ?_
                replace h := oi h
                subst h
                exact v_iret X (pc := 87) F dX6_count_87
              · replace h := hn t6 h
                by_cases t7 : x1 = 7
                · replace h := hp t7 h
                  refine v_tswIn X (pc := 1) (tgt := 82) (off := 81) dX6_count_1 (by rw [t7]; decide) (by rw [t7]; decide) (by rw [t7]; decide) (by decide) ?_
                  refine v_aload_n X (pc := 82) dX6_count_82 rfl 0 rfl ?_
                  refine v_iload_n X (pc := 83) dX6_count_83 rfl 1 rfl ?_
                  obtain ⟨q84, e84, h⟩ := ob h
                  refine v_callV X (pc := 84) (st1 := [.int q84]) (w' := (wM x.g a μ)) [.int x1] [] (c_X6_sumOf x.l x.g a μ x1 e84) rfl rfl cw_X6_sumOf q_923 q_925 q_47 ⟨by decide, by decide⟩ 0 6 rfl rfl rfl (Fr.all rfl) rfl (Nat.le_of_ble_eq_true rfl) dX6_count_84 ?_
                  replace h := oi h
                  subst h
                  exact v_iret X (pc := 87) F dX6_count_87
                · replace h := hn t7 h
                  by_cases t8 : x1 = 8
                  · replace h := hp t8 h
                    refine v_tswIn X (pc := 1) (tgt := 106) (off := 105) dX6_count_1 (by rw [t8]; decide) (by rw [t8]; decide) (by rw [t8]; decide) (by decide) ?_
                    refine v_aload_n X (pc := 106) dX6_count_106 rfl 0 rfl ?_
                    obtain ⟨q107, e107, h⟩ := ob h
                    refine v_callV X (pc := 107) (st1 := [.int q107]) (w' := (wM x.g a μ)) [] [] (c_X6_fullest x.l x.g a μ e107) rfl rfl cw_X6_fullest q_931 q_933 q_49 ⟨by decide, by decide⟩ 0 6 rfl rfl rfl (Fr.all rfl) rfl (Nat.le_of_ble_eq_true rfl) dX6_count_107 ?_
                    replace h := oi h
                    subst h
                    exact v_iret X (pc := 110) F dX6_count_110
                  · replace h := hn t8 h
                    by_cases t9 : x1 = 9
                    · replace h := hp t9 h
                      refine v_tswIn X (pc := 1) (tgt := 111) (off := 110) dX6_count_1 (by rw [t9]; decide) (by rw [t9]; decide) (by rw [t9]; decide) (by decide) ?_
                      refine v_aload_n X (pc := 111) dX6_count_111 rfl 0 rfl ?_
                      refine v_get X (pc := 112) (v := .ref (a 1)) uw6 0 rfl rfl 0 (by decide) q_668 rfl rfl dX6_count_112 ?_
                      refine v_iconst X (pc := 115) (v := 0) dX6_count_115 (by decide) ?_
                      refine v_iald X (pc := 116) (v := ((μ 1) 0)) 1 rfl (ib_in (by decide)) rfl dX6_count_116 ?_
                      replace h := oi h
                      subst h
                      exact v_iret X (pc := 117) F dX6_count_117
                    · replace h := hn t9 h
                      by_cases t10 : x1 = 10
                      · replace h := hp t10 h
                        refine v_tswIn X (pc := 1) (tgt := 118) (off := 117) dX6_count_1 (by rw [t10]; decide) (by rw [t10]; decide) (by rw [t10]; decide) (by decide) ?_
                        refine v_aload_n X (pc := 118) dX6_count_118 rfl 0 rfl ?_
                        refine v_get X (pc := 119) (v := .ref (a 1)) uw6 0 rfl rfl 0 (by decide) q_668 rfl rfl dX6_count_119 ?_
                        refine v_iconst X (pc := 122) (v := 1) dX6_count_122 (by decide) ?_
                        refine v_iald X (pc := 123) (v := ((μ 1) 1)) 1 rfl (ib_in (by decide)) rfl dX6_count_123 ?_
                        replace h := oi h
                        subst h
                        exact v_iret X (pc := 124) F dX6_count_124
                      · replace h := hn t10 h
                        by_cases t11 : x1 = 11
                        · replace h := hp t11 h
                          refine v_tswIn X (pc := 1) (tgt := 125) (off := 124) dX6_count_1 (by rw [t11]; decide) (by rw [t11]; decide) (by rw [t11]; decide) (by decide) ?_
                          refine v_aload_n X (pc := 125) dX6_count_125 rfl 0 rfl ?_
                          refine v_get X (pc := 126) (v := .int (μ 0 0)) uw6 0 rfl rfl 1 (by decide) q_669 rfl rfl dX6_count_126 ?_
                          replace h := oi h
                          subst h
                          exact v_iret X (pc := 129) F dX6_count_129
                        · replace h := hn t11 h
                          by_cases t12 : x1 = 12
                          · replace h := hp t12 h
                            refine v_tswIn X (pc := 1) (tgt := 130) (off := 129) dX6_count_1 (by rw [t12]; decide) (by rw [t12]; decide) (by rw [t12]; decide) (by decide) ?_
                            refine v_aload_n X (pc := 130) dX6_count_130 rfl 0 rfl ?_
                            refine v_get X (pc := 131) (v := .int (μ 0 2)) uw6 0 rfl rfl 4 (by decide) q_672 rfl rfl dX6_count_131 ?_
                            replace h := oi h
                            subst h
                            exact v_iret X (pc := 134) F dX6_count_134
                          · replace h := hn t12 h
                            have u0 : ¬ Int32.toInt x1 = 0 := fun e => t0 ((Int32.toInt_inj (y := 0)).mp e)
                            have u1 : ¬ Int32.toInt x1 = 1 := fun e => t1 ((Int32.toInt_inj (y := 1)).mp e)
                            have u2 : ¬ Int32.toInt x1 = 2 := fun e => t2 ((Int32.toInt_inj (y := 2)).mp e)
                            have u3 : ¬ Int32.toInt x1 = 3 := fun e => t3 ((Int32.toInt_inj (y := 3)).mp e)
                            have u4 : ¬ Int32.toInt x1 = 4 := fun e => t4 ((Int32.toInt_inj (y := 4)).mp e)
                            have u5 : ¬ Int32.toInt x1 = 5 := fun e => t5 ((Int32.toInt_inj (y := 5)).mp e)
                            have u6 : ¬ Int32.toInt x1 = 6 := fun e => t6 ((Int32.toInt_inj (y := 6)).mp e)
                            have u7 : ¬ Int32.toInt x1 = 7 := fun e => t7 ((Int32.toInt_inj (y := 7)).mp e)
                            have u8 : ¬ Int32.toInt x1 = 8 := fun e => t8 ((Int32.toInt_inj (y := 8)).mp e)
                            have u9 : ¬ Int32.toInt x1 = 9 := fun e => t9 ((Int32.toInt_inj (y := 9)).mp e)
                            have u10 : ¬ Int32.toInt x1 = 10 := fun e => t10 ((Int32.toInt_inj (y := 10)).mp e)
                            have u11 : ¬ Int32.toInt x1 = 11 := fun e => t11 ((Int32.toInt_inj (y := 11)).mp e)
                            have u12 : ¬ Int32.toInt x1 = 12 := fun e => t12 ((Int32.toInt_inj (y := 12)).mp e)
                            refine v_tswOut X (pc := 1) (tgt := 135) dX6_count_1 (by omega) (by decide) ?_
                            refine v_ldc X (pc := 135) (v := (-100002)) q_711 dX6_count_135 ?_
                            replace h := oi h
                            subst h
                            exact v_iret X (pc := 137) F dX6_count_137
theorem cw_X6_count : CwB yX6_count cX6_count 2 (Option.some FieldType.int) 1 := ⟨q_922, q_57, by decide, by decide, by decide +kernel⟩
def f_X6_most (μ : Blk) (x1 : Int32) (x2 : Bool) : Option (Int32) :=
  lt (f_X6_isStile μ x1) fun q2 => (if q2 = true then (f_X6_atMost μ 0 x1 x2 99).bind fun q14 => some q14 else some (-100001))
set_option maxHeartbeats 4000000 in
set_option maxRecDepth 100000 in
theorem c_X6_most (l : Launch) (g : Gl) (a : Nat → Nat) (μ : Blk) (x1 : Int32) (x2 : Bool) {res : Int32} (h : f_X6_most μ x1 x2 = some res) : Ok l g yX6_most cX6_most 3 (Option.some FieldType.int) 2 52 [.ref (a 0), .int x1, .int (b2i x2)] (wM g a μ) (some (.int res)) (wM g a μ) := by
  refine Ok.of RX6 (by decide) rfl (Nat.le_of_ble_eq_true rfl) (fun x hl hg X F => ?_)
  subst hg; subst hl
  rw [f_X6_most] at h
  show V x (wM x.g a μ) [(0, .ref (a 0)), (1, .int x1), (2, .int (b2i x2))] [] 0
  refine v_aload_n X (pc := 0) dX6_most_0 rfl 0 rfl ?_
  refine v_iload_n X (pc := 1) dX6_most_1 rfl 1 rfl ?_
  obtain ⟨q2, e2, h⟩ := lts h
  refine v_callV X (pc := 2) (st1 := [.int (b2i q2)]) (w' := (wM x.g a μ)) [.int x1] [] (c_X6_isStile x.l x.g a μ x1 e2) rfl rfl cw_X6_isStile q_728 q_730 q_22 ⟨by decide, by decide⟩ 0 6 rfl rfl rfl (Fr.all rfl) rfl (Nat.le_of_ble_eq_true rfl) dX6_most_2 ?_
  refine v_ifeqB X (pc := 5) (tgt := 20) dX6_most_5 (by decide) (fun c => ?_) (fun c => ?_)
  · replace h := hn (nbt c) h
    refine v_ldc X (pc := 20) (v := (-100001)) q_710 dX6_most_20 ?_
    replace h := oi h
    subst h
    exact v_iret X (pc := 22) F dX6_most_22
  · replace h := hp c h
    refine v_aload_n X (pc := 8) dX6_most_8 rfl 0 rfl ?_
    refine v_iconst X (pc := 9) (v := 0) dX6_most_9 (by decide) ?_
    refine v_iload_n X (pc := 10) dX6_most_10 rfl 1 rfl ?_
    refine v_iload_n X (pc := 11) dX6_most_11 rfl 2 rfl ?_
    refine v_bipush X (pc := 12) (v := 99) dX6_most_12 (by decide) ?_
    obtain ⟨q14, e14, h⟩ := ob h
    refine v_callV X (pc := 14) (st1 := [.int q14]) (w' := (wM x.g a μ)) [.int 0, .int x1, .int (b2i x2), .int 99] [] (c_X6_atMost x.l x.g a μ 0 x1 x2 99 e14) rfl rfl cw_X6_atMost q_827 q_829 q_37 ⟨by decide, by decide⟩ 0 6 rfl rfl rfl (Fr.all rfl) rfl (Nat.le_of_ble_eq_true rfl) dX6_most_14 ?_
    refine v_goto X (pc := 17) (tgt := 22) dX6_most_17 (by decide) ?_
    replace h := oi h
    subst h
    exact v_iret X (pc := 22) F dX6_most_22
theorem cw_X6_most : CwB yX6_most cX6_most 3 (Option.some FieldType.int) 2 := ⟨q_938, q_57, by decide, by decide, by decide +kernel⟩
def f_X6_emptyIn_L9  : Nat → Blk → Int32 → Option (Int32 × Blk)
  | 0, _, _ => none
  | n + 1, μ, x1 =>
    (if 300 < x1 then (if x1 ≤ 300 then some (x1, μ) else some ((-100005), μ)) else (f_X6_people μ 1792).bind fun q20 => (if q20 ≤ 0 then (if x1 ≤ 300 then some (x1, μ) else some ((-100005), μ)) else (f_X6_closes μ 1792).bind fun q30 => f_X6_emptyIn_L9  n q30.2 (x1 + 1)))
set_option maxHeartbeats 4000000 in
set_option maxRecDepth 100000 in
theorem v_X6_emptyIn_L9 {x : Ctx} (X : Cx x RX6 cX6_emptyIn 2 3 81) (a : Nat → Nat)  : ∀ (n : Nat) (μ : Blk) (x1 : Int32) {res : Int32 × Blk}, f_X6_emptyIn_L9  n μ x1 = some res → Fn x (Option.some FieldType.int) (some (.int res.1)) (wM x.g a res.2) → V x (wM x.g a μ) [(0, .ref (a 0)), (1, .int x1)] [] 9 := by
  intro n
  induction n with
  | zero =>
    intro μ x1 res h F
    rw [f_X6_emptyIn_L9] at h
    cases h
  | succ n ih =>
    intro μ x1 res h F
    rw [f_X6_emptyIn_L9] at h
    refine v_iload_n X (pc := 9) dX6_emptyIn_9 rfl 1 rfl ?_
    refine v_sipush X (pc := 10) (v := 300) dX6_emptyIn_10 (by decide) ?_
    refine v_icmpgt X (pc := 13) (tgt := 40) dX6_emptyIn_13 (by decide) (fun c => ?_) (fun c => ?_)
    · replace h := hp c h
      refine v_iload_n X (pc := 40) dX6_emptyIn_40 rfl 1 rfl ?_
      refine v_sipush X (pc := 41) (v := 300) dX6_emptyIn_41 (by decide) ?_
      refine v_icmple X (pc := 44) (tgt := 52) dX6_emptyIn_44 (by decide) (fun c => ?_) (fun c => ?_)
      · replace h := hp c h
        refine v_iload_n X (pc := 52) dX6_emptyIn_52 rfl 1 rfl ?_
        replace h := oi h
        subst h
        exact v_iret X (pc := 53) F dX6_emptyIn_53
      · replace h := hn c h
        refine v_ldc X (pc := 47) (v := (-100005)) q_826 dX6_emptyIn_47 ?_
        refine v_goto X (pc := 49) (tgt := 53) dX6_emptyIn_49 (by decide) ?_
        replace h := oi h
        subst h
        exact v_iret X (pc := 53) F dX6_emptyIn_53
    · replace h := hn c h
      refine v_aload_n X (pc := 16) dX6_emptyIn_16 rfl 0 rfl ?_
      refine v_sipush X (pc := 17) (v := 1792) dX6_emptyIn_17 (by decide) ?_
      obtain ⟨q20, e20, h⟩ := ob h
      refine v_callV X (pc := 20) (st1 := [.int q20]) (w' := (wM x.g a μ)) [.int 1792] [] (c_X6_people x.l x.g a μ 1792 e20) rfl rfl cw_X6_people q_831 q_833 q_38 ⟨by decide, by decide⟩ 0 6 rfl rfl rfl (Fr.all rfl) rfl (Nat.le_of_ble_eq_true rfl) dX6_emptyIn_20 ?_
      refine v_ifle X (pc := 23) (tgt := 40) dX6_emptyIn_23 (by decide) (fun c => ?_) (fun c => ?_)
      · replace h := hp c h
        refine v_iload_n X (pc := 40) dX6_emptyIn_40 rfl 1 rfl ?_
        refine v_sipush X (pc := 41) (v := 300) dX6_emptyIn_41 (by decide) ?_
        refine v_icmple X (pc := 44) (tgt := 52) dX6_emptyIn_44 (by decide) (fun c => ?_) (fun c => ?_)
        · replace h := hp c h
          refine v_iload_n X (pc := 52) dX6_emptyIn_52 rfl 1 rfl ?_
          replace h := oi h
          subst h
          exact v_iret X (pc := 53) F dX6_emptyIn_53
        · replace h := hn c h
          refine v_ldc X (pc := 47) (v := (-100005)) q_826 dX6_emptyIn_47 ?_
          refine v_goto X (pc := 49) (tgt := 53) dX6_emptyIn_49 (by decide) ?_
          replace h := oi h
          subst h
          exact v_iret X (pc := 53) F dX6_emptyIn_53
      · replace h := hn c h
        refine v_aload_n X (pc := 26) dX6_emptyIn_26 rfl 0 rfl ?_
        refine v_sipush X (pc := 27) (v := 1792) dX6_emptyIn_27 (by decide) ?_
        obtain ⟨q30, e30, h⟩ := ob h
        refine v_callV X (pc := 30) (st1 := [.int q30.1]) (w' := (wM x.g a q30.2)) [.int 1792] [] (c_X6_closes x.l x.g a μ 1792 e30) rfl rfl cw_X6_closes q_818 q_820 q_35 ⟨by decide, by decide⟩ 0 6 rfl rfl rfl (Fr.all rfl) rfl (Nat.le_of_ble_eq_true rfl) dX6_emptyIn_30 ?_
        refine v_pop X (pc := 33) dX6_emptyIn_33 rfl ?_
        refine v_iinc X (pc := 34) (v := (x1 + 1)) (L2 := [(1, .int (x1 + 1)), (0, .ref (a 0))]) dX6_emptyIn_34 1 rfl (by first | rfl | decide) (by decide) rfl ?_
        refine v_goto X (pc := 37) (tgt := 9) dX6_emptyIn_37 (by decide) ?_
        refine v_sub (L2 := [(0, .ref (a 0)), (1, .int (x1 + 1))]) [1, 0] rfl ?_
        exact ih q30.2 (x1 + 1) h F
def f_X6_emptyIn (μ : Blk) : Option (Int32 × Blk) :=
  (f_X6_copies μ 0 7).bind fun q4 => f_X6_emptyIn_L9  FU q4 0
set_option maxHeartbeats 4000000 in
set_option maxRecDepth 100000 in
theorem c_X6_emptyIn (l : Launch) (g : Gl) (a : Nat → Nat) (μ : Blk) {res : Int32 × Blk} (h : f_X6_emptyIn μ = some res) : Ok l g yX6_emptyIn cX6_emptyIn 2 (Option.some FieldType.int) 3 81 [.ref (a 0)] (wM g a μ) (some (.int res.1)) (wM g a res.2) := by
  refine Ok.of RX6 (by decide) rfl (Nat.le_of_ble_eq_true rfl) (fun x hl hg X F => ?_)
  subst hg; subst hl
  rw [f_X6_emptyIn] at h
  show V x (wM x.g a μ) [(0, .ref (a 0))] [] 0
  refine v_aload_n X (pc := 0) dX6_emptyIn_0 rfl 0 rfl ?_
  refine v_iconst X (pc := 1) (v := 0) dX6_emptyIn_1 (by decide) ?_
  refine v_bipush X (pc := 2) (v := 7) dX6_emptyIn_2 (by decide) ?_
  obtain ⟨q4, e4, h⟩ := ob h
  refine v_callV X (pc := 4) (st1 := []) (w' := (wM x.g a q4)) [.int 0, .int 7] [] (c_X6_copies x.l x.g a μ 0 7 e4) rfl rfl cw_X6_copies q_717 q_719 q_21 ⟨by decide, by decide⟩ 0 6 rfl rfl rfl (Fr.all rfl) rfl (Nat.le_of_ble_eq_true rfl) dX6_emptyIn_4 ?_
  refine v_iconst X (pc := 7) (v := 0) dX6_emptyIn_7 (by decide) ?_
  refine v_istore_n X (pc := 8) (L2 := [(1, .int 0), (0, .ref (a 0))]) dX6_emptyIn_8 rfl (by decide) rfl ?_
  refine v_sub (L2 := [(0, .ref (a 0)), (1, .int 0)]) [1, 0] rfl ?_
  exact v_X6_emptyIn_L9 X a  FU q4 0 h F
theorem cw_X6_emptyIn : CwB yX6_emptyIn cX6_emptyIn 2 (Option.some FieldType.int) 0 := ⟨q_942, q_57, by decide, by decide, by decide +kernel⟩
def f_X6_leftWithout_L48 (x2 : Int32) : Nat → Blk → Int32 → Option (Int32 × Blk)
  | 0, _, _ => none
  | n + 1, μ, x3 =>
    (if x2 ≤ x3 then (f_X6_people μ 1792).bind fun q71 => some (q71, μ) else (f_X6_closes μ 1792).bind fun q57 => f_X6_leftWithout_L48 x2 n q57.2 (x3 + 1))
set_option maxHeartbeats 4000000 in
set_option maxRecDepth 100000 in
theorem v_X6_leftWithout_L48 {x : Ctx} (X : Cx x RX6 cX6_leftWithout 4 3 81) (a : Nat → Nat) (x2 : Int32) : ∀ (n : Nat) (μ : Blk) (x3 : Int32) {res : Int32 × Blk}, f_X6_leftWithout_L48 x2 n μ x3 = some res → Fn x (Option.some FieldType.int) (some (.int res.1)) (wM x.g a res.2) → V x (wM x.g a μ) [(0, .ref (a 0)), (2, .int x2), (3, .int x3)] [] 48 := by
  intro n
  induction n with
  | zero =>
    intro μ x3 res h F
    rw [f_X6_leftWithout_L48] at h
    cases h
  | succ n ih =>
    intro μ x3 res h F
    rw [f_X6_leftWithout_L48] at h
    refine v_iload_n X (pc := 48) dX6_leftWithout_48 rfl 2 rfl ?_
    refine v_iload_n X (pc := 49) dX6_leftWithout_49 rfl 1 rfl ?_
    refine v_icmpge X (pc := 50) (tgt := 67) dX6_leftWithout_50 (by decide) (fun c => ?_) (fun c => ?_)
    · replace h := hp c h
      refine v_aload_n X (pc := 67) dX6_leftWithout_67 rfl 0 rfl ?_
      refine v_sipush X (pc := 68) (v := 1792) dX6_leftWithout_68 (by decide) ?_
      obtain ⟨q71, e71, h⟩ := ob h
      refine v_callV X (pc := 71) (st1 := [.int q71]) (w' := (wM x.g a μ)) [.int 1792] [] (c_X6_people x.l x.g a μ 1792 e71) rfl rfl cw_X6_people q_831 q_833 q_38 ⟨by decide, by decide⟩ 0 6 rfl rfl rfl (Fr.all rfl) rfl (Nat.le_of_ble_eq_true rfl) dX6_leftWithout_71 ?_
      replace h := oi h
      subst h
      exact v_iret X (pc := 74) F dX6_leftWithout_74
    · replace h := hn c h
      refine v_aload_n X (pc := 53) dX6_leftWithout_53 rfl 0 rfl ?_
      refine v_sipush X (pc := 54) (v := 1792) dX6_leftWithout_54 (by decide) ?_
      obtain ⟨q57, e57, h⟩ := ob h
      refine v_callV X (pc := 57) (st1 := [.int q57.1]) (w' := (wM x.g a q57.2)) [.int 1792] [] (c_X6_closes x.l x.g a μ 1792 e57) rfl rfl cw_X6_closes q_818 q_820 q_35 ⟨by decide, by decide⟩ 0 6 rfl rfl rfl (Fr.all rfl) rfl (Nat.le_of_ble_eq_true rfl) dX6_leftWithout_57 ?_
      refine v_pop X (pc := 60) dX6_leftWithout_60 rfl ?_
      refine v_iinc X (pc := 61) (v := (x3 + 1)) (L2 := [(3, .int (x3 + 1)), (0, .ref (a 0)), (2, .int x2)]) dX6_leftWithout_61 2 rfl (by first | rfl | decide) (by decide) rfl ?_
      refine v_goto X (pc := 64) (tgt := 48) dX6_leftWithout_64 (by decide) ?_
      refine v_sub (L2 := [(0, .ref (a 0)), (2, .int x2), (3, .int (x3 + 1))]) [1, 2, 0] rfl ?_
      exact ih q57.2 (x3 + 1) h F
def f_X6_leftWithout (μ : Blk) (x1 : Int32) (x2 : Int32) : Option (Int32 × Blk) :=
  lt (f_X6_isStile μ x1) fun q2 => (if q2 = true then lt (f_X6_in x2 1 99) fun q15 => (if q15 = true then (f_X6_copies μ 0 7).bind fun q28 => lt (f_X6_place 1792 x1) fun q39 => (if ib (q39 + 2) 2048 = true then lt (upR q28 1 (upd (q28 1) (Int32.toNatClampNeg (q39 + 2)) 3)) fun m45 => f_X6_leftWithout_L48 x2 FU m45 0 else none) else some ((-100002), μ)) else some ((-100001), μ))
set_option maxHeartbeats 4000000 in
set_option maxRecDepth 100000 in
theorem c_X6_leftWithout (l : Launch) (g : Gl) (a : Nat → Nat) (μ : Blk) (x1 : Int32) (x2 : Int32) {res : Int32 × Blk} (h : f_X6_leftWithout μ x1 x2 = some res) : Ok l g yX6_leftWithout cX6_leftWithout 4 (Option.some FieldType.int) 3 81 [.ref (a 0), .int x1, .int x2] (wM g a μ) (some (.int res.1)) (wM g a res.2) := by
  refine Ok.of RX6 (by decide) rfl (Nat.le_of_ble_eq_true rfl) (fun x hl hg X F => ?_)
  subst hg; subst hl
  rw [f_X6_leftWithout] at h
  show V x (wM x.g a μ) [(0, .ref (a 0)), (1, .int x1), (2, .int x2)] [] 0
  refine v_aload_n X (pc := 0) dX6_leftWithout_0 rfl 0 rfl ?_
  refine v_iload_n X (pc := 1) dX6_leftWithout_1 rfl 1 rfl ?_
  obtain ⟨q2, e2, h⟩ := lts h
  refine v_callV X (pc := 2) (st1 := [.int (b2i q2)]) (w' := (wM x.g a μ)) [.int x1] [] (c_X6_isStile x.l x.g a μ x1 e2) rfl rfl cw_X6_isStile q_728 q_730 q_22 ⟨by decide, by decide⟩ 0 6 rfl rfl rfl (Fr.all rfl) rfl (Nat.le_of_ble_eq_true rfl) dX6_leftWithout_2 ?_
  refine v_ifneB X (pc := 5) (tgt := 11) dX6_leftWithout_5 (by decide) (fun c => ?_) (fun c => ?_)
  · replace h := hp c h
    refine v_iload_n X (pc := 11) dX6_leftWithout_11 rfl 2 rfl ?_
    refine v_iconst X (pc := 12) (v := 1) dX6_leftWithout_12 (by decide) ?_
    refine v_bipush X (pc := 13) (v := 99) dX6_leftWithout_13 (by decide) ?_
    obtain ⟨q15, e15, h⟩ := lts h
    refine v_callS X (pc := 15) (st1 := [.int (b2i q15)]) (w' := (wM x.g a μ)) [.int x2, .int 1, .int 99] [] (c_X6_in x.l x.g  x2 1 99 e15) rfl rfl cw_X6_in q_707 q_708 ⟨by decide, by decide⟩ Fr.nil rfl (Nat.le_of_ble_eq_true rfl) dX6_leftWithout_15 ?_
    refine v_ifneB X (pc := 18) (tgt := 24) dX6_leftWithout_18 (by decide) (fun c => ?_) (fun c => ?_)
    · replace h := hp c h
      refine v_aload_n X (pc := 24) dX6_leftWithout_24 rfl 0 rfl ?_
      refine v_iconst X (pc := 25) (v := 0) dX6_leftWithout_25 (by decide) ?_
      refine v_bipush X (pc := 26) (v := 7) dX6_leftWithout_26 (by decide) ?_
      obtain ⟨q28, e28, h⟩ := ob h
      refine v_callV X (pc := 28) (st1 := []) (w' := (wM x.g a q28)) [.int 0, .int 7] [] (c_X6_copies x.l x.g a μ 0 7 e28) rfl rfl cw_X6_copies q_717 q_719 q_21 ⟨by decide, by decide⟩ 0 6 rfl rfl rfl (Fr.all rfl) rfl (Nat.le_of_ble_eq_true rfl) dX6_leftWithout_28 ?_
      refine v_aload_n X (pc := 31) dX6_leftWithout_31 rfl 0 rfl ?_
      refine v_get X (pc := 32) (v := .ref (a 1)) uw6 0 rfl rfl 0 (by decide) q_668 rfl rfl dX6_leftWithout_32 ?_
      refine v_sipush X (pc := 35) (v := 1792) dX6_leftWithout_35 (by decide) ?_
      refine v_iload_n X (pc := 38) dX6_leftWithout_38 rfl 1 rfl ?_
      obtain ⟨q39, e39, h⟩ := lts h
      refine v_callS X (pc := 39) (st1 := [.int q39, .ref (a 1)]) (w' := (wM x.g a q28)) [.int 1792, .int x1] [.ref (a 1)] (c_X6_place x.l x.g  1792 x1 e39) rfl rfl cw_X6_place q_721 q_722 ⟨by decide, by decide⟩ Fr.nil rfl (Nat.le_of_ble_eq_true rfl) dX6_leftWithout_39 ?_
      refine v_iconst X (pc := 42) (v := 2) dX6_leftWithout_42 (by decide) ?_
      refine v_iadd X (pc := 43) dX6_leftWithout_43 ?_
      refine v_iconst X (pc := 44) (v := 3) dX6_leftWithout_44 (by decide) ?_
      obtain ⟨g45, h⟩ := og h
      obtain ⟨m45, em45, h⟩ := lts h
      refine v_iast X (pc := 45) (w' := (wM x.g a m45)) 1 rfl (ib_in g45) (by rw [← em45]; rfl) dX6_leftWithout_45 ?_
      refine v_iconst X (pc := 46) (v := 0) dX6_leftWithout_46 (by decide) ?_
      refine v_istore_n X (pc := 47) (L2 := [(3, .int 0), (0, .ref (a 0)), (1, .int x1), (2, .int x2)]) dX6_leftWithout_47 rfl (by decide) rfl ?_
      refine v_sub (L2 := [(0, .ref (a 0)), (2, .int x2), (3, .int 0)]) [1, 3, 0] rfl ?_
      exact v_X6_leftWithout_L48 X a x2 FU m45 0 h F
    · replace h := hn (nbt c) h
      refine v_ldc X (pc := 21) (v := (-100002)) q_711 dX6_leftWithout_21 ?_
      replace h := oi h
      subst h
      exact v_iret X (pc := 23) F dX6_leftWithout_23
  · replace h := hn (nbt c) h
    refine v_ldc X (pc := 8) (v := (-100001)) q_710 dX6_leftWithout_8 ?_
    replace h := oi h
    subst h
    exact v_iret X (pc := 10) F dX6_leftWithout_10
theorem cw_X6_leftWithout : CwB yX6_leftWithout cX6_leftWithout 4 (Option.some FieldType.int) 2 := ⟨q_946, q_57, by decide, by decide, by decide +kernel⟩
