def f_X3_addCharacter (χ : Blk) (x1 : Int32) : Option (Blk) :=
  (f_X5_put 60 (χ 1) (χ 0 0) x1).bind fun q9 => lt (upR χ 1 q9) fun m9 => lt (up m9 0 0 ((m9 0 0) + 1)) fun m19 => some m19
set_option maxHeartbeats 4000000 in
set_option maxRecDepth 100000 in
theorem c_X3_addCharacter (l : Launch) (g : Gl) (a : Nat → Nat) (χ : Blk) (x1 : Int32) {res : Blk} (h : f_X3_addCharacter χ x1 = some res) : Ok l g yX3_addCharacter cX3_addCharacter 2 (Option.none : Option FieldType) 1 22 [.ref (a 0), .int x1] (wSc g a χ) none (wSc g a res) := by
  refine Ok.of RX3 (by decide) rfl (Nat.le_of_ble_eq_true rfl) (fun x hl hg X F => ?_)
  subst hg; subst hl
  rw [f_X3_addCharacter] at h
  show V x (wSc x.g a χ) [(0, .ref (a 0)), (1, .int x1)] [] 0
  refine v_aload_n X (pc := 0) dX3_addCharacter_0 rfl 0 rfl ?_
  refine v_get X (pc := 1) (v := .ref (a 1)) uw3 0 rfl rfl 0 (by decide) q_179 rfl rfl dX3_addCharacter_1 ?_
  refine v_aload_n X (pc := 4) dX3_addCharacter_4 rfl 0 rfl ?_
  refine v_get X (pc := 5) (v := .int (χ 0 0)) uw3 0 rfl rfl 1 (by decide) q_180 rfl rfl dX3_addCharacter_5 ?_
  refine v_iload_n X (pc := 8) dX3_addCharacter_8 rfl 1 rfl ?_
  obtain ⟨q9, e9, h⟩ := ob h
  obtain ⟨m9, em9, h⟩ := lts h
  refine v_callSN X (pc := 9) (st1 := []) (w' := (wSc x.g a m9)) [.ref (a 1), .int (χ 0 0), .int x1] [] (c_X5_put x.l x.g (a 1) 60 (χ 1) (χ 0 0) x1 e9) rfl rfl cw_X5_put k_36 q_259 ⟨by decide, by decide⟩ (by rw [← em9]; exact (Fr.of [1] rfl rfl rfl rfl rfl)) rfl (Nat.le_of_ble_eq_true rfl) dX3_addCharacter_9 ?_
  refine v_aload_n X (pc := 12) dX3_addCharacter_12 rfl 0 rfl ?_
  refine v_dup X (pc := 13) dX3_addCharacter_13 rfl ?_
  refine v_get X (pc := 14) (v := .int (m9 0 0)) uw3 0 rfl rfl 1 (by decide) q_180 rfl rfl dX3_addCharacter_14 ?_
  refine v_iconst X (pc := 17) (v := 1) dX3_addCharacter_17 (by decide) ?_
  refine v_iadd X (pc := 18) dX3_addCharacter_18 ?_
  obtain ⟨m19, em19, h⟩ := lts h
  refine v_put X (pc := 19) (w' := (wSc x.g a m19)) uw3 0 rfl rfl 1 (by decide) q_180 rfl tyX3 tyX3_ok nmX3 rfl rfl rfl (Nat.le_of_ble_eq_true rfl) (by rw [← em19]; rfl) dX3_addCharacter_19 ?_
  replace h := oi h
  subst h
  exact v_vret X (pc := 22) F dX3_addCharacter_22
theorem cw_X3_addCharacter : CwB yX3_addCharacter cX3_addCharacter 2 (Option.none : Option FieldType) 1 := ⟨q_474, q_56, by decide, by decide, by decide +kernel⟩
def f_X3_isStileLetter (x0 : Int32) : Bool :=
  (if x0 < 65 then false else (if 77 ≤ x0 then false else true))
set_option maxHeartbeats 4000000 in
set_option maxRecDepth 100000 in
theorem c_X3_isStileLetter (l : Launch) (g : Gl)  (x0 : Int32) {res : Bool} (h : f_X3_isStileLetter x0 = res) : Ok l g yX3_isStileLetter cX3_isStileLetter 1 (Option.some FieldType.boolean) 0 0 [.int x0] ([] : va_W) (some (.int (b2i res))) ([] : va_W) := by
  refine Ok.of RX3 (by decide) rfl (Nat.le_of_ble_eq_true rfl) (fun x hl hg X F => ?_)
  subst hg; subst hl
  rw [f_X3_isStileLetter] at h
  show V x ([] : va_W) [(0, .int x0)] [] 0
  refine v_iload_n X (pc := 0) dX3_isStileLetter_0 rfl 0 rfl ?_
  refine v_bipush X (pc := 1) (v := 65) dX3_isStileLetter_1 (by decide) ?_
  refine v_icmplt X (pc := 3) (tgt := 16) dX3_isStileLetter_3 (by decide) (fun c => ?_) (fun c => ?_)
  · replace h := hp c h
    refine v_iconst X (pc := 16) (v := 0) dX3_isStileLetter_16 (by decide) ?_
    subst h
    exact v_bret X (pc := 17) (b := false) F dX3_isStileLetter_17
  · replace h := hn c h
    refine v_iload_n X (pc := 6) dX3_isStileLetter_6 rfl 0 rfl ?_
    refine v_bipush X (pc := 7) (v := 77) dX3_isStileLetter_7 (by decide) ?_
    refine v_icmpge X (pc := 9) (tgt := 16) dX3_isStileLetter_9 (by decide) (fun c => ?_) (fun c => ?_)
    · replace h := hp c h
      refine v_iconst X (pc := 16) (v := 0) dX3_isStileLetter_16 (by decide) ?_
      subst h
      exact v_bret X (pc := 17) (b := false) F dX3_isStileLetter_17
    · replace h := hn c h
      refine v_iconst X (pc := 12) (v := 1) dX3_isStileLetter_12 (by decide) ?_
      refine v_goto X (pc := 13) (tgt := 17) dX3_isStileLetter_13 (by decide) ?_
      subst h
      exact v_bret X (pc := 17) (b := true) F dX3_isStileLetter_17
theorem cw_X3_isStileLetter : CwB yX3_isStileLetter cX3_isStileLetter 1 (Option.some FieldType.boolean) 1 := ⟨q_494, q_56, by decide, by decide, by decide +kernel⟩
def f_X3_isWay (x0 : Int32) : Bool :=
  (if x0 = 62 then true else (if x0 = 60 then true else false))
set_option maxHeartbeats 4000000 in
set_option maxRecDepth 100000 in
theorem c_X3_isWay (l : Launch) (g : Gl)  (x0 : Int32) {res : Bool} (h : f_X3_isWay x0 = res) : Ok l g yX3_isWay cX3_isWay 1 (Option.some FieldType.boolean) 0 0 [.int x0] ([] : va_W) (some (.int (b2i res))) ([] : va_W) := by
  refine Ok.of RX3 (by decide) rfl (Nat.le_of_ble_eq_true rfl) (fun x hl hg X F => ?_)
  subst hg; subst hl
  rw [f_X3_isWay] at h
  show V x ([] : va_W) [(0, .int x0)] [] 0
  refine v_iload_n X (pc := 0) dX3_isWay_0 rfl 0 rfl ?_
  refine v_bipush X (pc := 1) (v := 62) dX3_isWay_1 (by decide) ?_
  refine v_icmpeq X (pc := 3) (tgt := 12) dX3_isWay_3 (by decide) (fun c => ?_) (fun c => ?_)
  · replace h := hp c h
    refine v_iconst X (pc := 12) (v := 1) dX3_isWay_12 (by decide) ?_
    refine v_goto X (pc := 13) (tgt := 17) dX3_isWay_13 (by decide) ?_
    subst h
    exact v_bret X (pc := 17) (b := true) F dX3_isWay_17
  · replace h := hn c h
    refine v_iload_n X (pc := 6) dX3_isWay_6 rfl 0 rfl ?_
    refine v_bipush X (pc := 7) (v := 60) dX3_isWay_7 (by decide) ?_
    refine v_icmpne X (pc := 9) (tgt := 16) dX3_isWay_9 (by decide) (fun c => ?_) (fun c => ?_)
    · replace h := hn c h
      refine v_iconst X (pc := 16) (v := 0) dX3_isWay_16 (by decide) ?_
      subst h
      exact v_bret X (pc := 17) (b := false) F dX3_isWay_17
    · replace h := hp c h
      refine v_iconst X (pc := 12) (v := 1) dX3_isWay_12 (by decide) ?_
      refine v_goto X (pc := 13) (tgt := 17) dX3_isWay_13 (by decide) ?_
      subst h
      exact v_bret X (pc := 17) (b := true) F dX3_isWay_17
theorem cw_X3_isWay : CwB yX3_isWay cX3_isWay 1 (Option.some FieldType.boolean) 1 := ⟨q_497, q_56, by decide, by decide, by decide +kernel⟩
def f_X3_isDigit (x0 : Int32) : Bool :=
  (if x0 < 48 then false else (if 57 < x0 then false else true))
set_option maxHeartbeats 4000000 in
set_option maxRecDepth 100000 in
theorem c_X3_isDigit (l : Launch) (g : Gl)  (x0 : Int32) {res : Bool} (h : f_X3_isDigit x0 = res) : Ok l g yX3_isDigit cX3_isDigit 1 (Option.some FieldType.boolean) 0 0 [.int x0] ([] : va_W) (some (.int (b2i res))) ([] : va_W) := by
  refine Ok.of RX3 (by decide) rfl (Nat.le_of_ble_eq_true rfl) (fun x hl hg X F => ?_)
  subst hg; subst hl
  rw [f_X3_isDigit] at h
  show V x ([] : va_W) [(0, .int x0)] [] 0
  refine v_iload_n X (pc := 0) dX3_isDigit_0 rfl 0 rfl ?_
  refine v_bipush X (pc := 1) (v := 48) dX3_isDigit_1 (by decide) ?_
  refine v_icmplt X (pc := 3) (tgt := 16) dX3_isDigit_3 (by decide) (fun c => ?_) (fun c => ?_)
  · replace h := hp c h
    refine v_iconst X (pc := 16) (v := 0) dX3_isDigit_16 (by decide) ?_
    subst h
    exact v_bret X (pc := 17) (b := false) F dX3_isDigit_17
  · replace h := hn c h
    refine v_iload_n X (pc := 6) dX3_isDigit_6 rfl 0 rfl ?_
    refine v_bipush X (pc := 7) (v := 57) dX3_isDigit_7 (by decide) ?_
    refine v_icmpgt X (pc := 9) (tgt := 16) dX3_isDigit_9 (by decide) (fun c => ?_) (fun c => ?_)
    · replace h := hp c h
      refine v_iconst X (pc := 16) (v := 0) dX3_isDigit_16 (by decide) ?_
      subst h
      exact v_bret X (pc := 17) (b := false) F dX3_isDigit_17
    · replace h := hn c h
      refine v_iconst X (pc := 12) (v := 1) dX3_isDigit_12 (by decide) ?_
      refine v_goto X (pc := 13) (tgt := 17) dX3_isDigit_13 (by decide) ?_
      subst h
      exact v_bret X (pc := 17) (b := true) F dX3_isDigit_17
theorem cw_X3_isDigit : CwB yX3_isDigit cX3_isDigit 1 (Option.some FieldType.boolean) 1 := ⟨q_500, q_56, by decide, by decide, by decide +kernel⟩
def f_X3_whereBehind (x0 : Int32) (x1 : Int32) : Int32 :=
  (if x0 = 0 then (if x1 = 104 then 2 else lt (f_X3_isStileLetter x1) fun q41 => (if q41 = true then 1 else (-1))) else (if x0 = 1 then lt (f_X3_isWay x1) fun q54 => (if q54 = true then 2 else (if x1 = 97 then 4 else (if x1 = 114 then 4 else (-1)))) else (if x0 = 2 then lt (f_X3_isDigit x1) fun q81 => (if q81 = true then (if x1 = 48 then (-1) else 3) else (-1)) else (if x0 = 3 then lt (f_X3_isDigit x1) fun q100 => (if q100 = true then 4 else (if x1 = 44 then 0 else (-1))) else (if x1 = 44 then 0 else (-1))))))
set_option maxHeartbeats 4000000 in
set_option maxRecDepth 100000 in
theorem c_X3_whereBehind (l : Launch) (g : Gl)  (x0 : Int32) (x1 : Int32) {res : Int32} (h : f_X3_whereBehind x0 x1 = res) : Ok l g yX3_whereBehind cX3_whereBehind 2 (Option.some FieldType.int) 1 20 [.int x0, .int x1] ([] : va_W) (some (.int res)) ([] : va_W) := by
  refine Ok.of RX3 (by decide) rfl (Nat.le_of_ble_eq_true rfl) (fun x hl hg X F => ?_)
  subst hg; subst hl
  rw [f_X3_whereBehind] at h
  show V x ([] : va_W) [(0, .int x0), (1, .int x1)] [] 0
  refine v_iload_n X (pc := 0) dX3_whereBehind_0 rfl 0 rfl ?_
  by_cases t0 : x0 = 0
  · replace h := hp t0 h
    refine v_tswIn X (pc := 1) (tgt := 32) (off := 31) dX3_whereBehind_1 (by rw [t0]; decide) (by rw [t0]; decide) (by rw [t0]; decide) (by decide) ?_
    refine v_iload_n X (pc := 32) dX3_whereBehind_32 rfl 1 rfl ?_
    refine v_bipush X (pc := 33) (v := 104) dX3_whereBehind_33 (by decide) ?_
    refine v_icmpne X (pc := 35) (tgt := 40) dX3_whereBehind_35 (by decide) (fun c => ?_) (fun c => ?_)
    · replace h := hn c h
      refine v_iload_n X (pc := 40) dX3_whereBehind_40 rfl 1 rfl ?_
      obtain ⟨q41, e41, h⟩ := lts h
      refine v_callS X (pc := 41) (st1 := [.int (b2i q41)]) (w' := ([] : va_W)) [.int x1] [] (c_X3_isStileLetter x.l x.g  x1 e41) rfl rfl cw_X3_isStileLetter q_492 q_493 ⟨by decide, by decide⟩ Fr.nil rfl (Nat.le_of_ble_eq_true rfl) dX3_whereBehind_41 ?_
      refine v_ifeqB X (pc := 44) (tgt := 51) dX3_whereBehind_44 (by decide) (fun c => ?_) (fun c => ?_)
      · replace h := hn (nbt c) h
        refine v_iconst X (pc := 51) (v := (-1)) dX3_whereBehind_51 (by decide) ?_
        subst h
        exact v_iret X (pc := 52) F dX3_whereBehind_52
      · replace h := hp c h
        refine v_iconst X (pc := 47) (v := 1) dX3_whereBehind_47 (by decide) ?_
        refine v_goto X (pc := 48) (tgt := 52) dX3_whereBehind_48 (by decide) ?_
        subst h
        exact v_iret X (pc := 52) F dX3_whereBehind_52
    · replace h := hp c h
      refine v_iconst X (pc := 38) (v := 2) dX3_whereBehind_38 (by decide) ?_
      subst h
      exact v_iret X (pc := 39) F dX3_whereBehind_39
  · replace h := hn t0 h
    by_cases t1 : x0 = 1
    · replace h := hp t1 h
      refine v_tswIn X (pc := 1) (tgt := 53) (off := 52) dX3_whereBehind_1 (by rw [t1]; decide) (by rw [t1]; decide) (by rw [t1]; decide) (by decide) ?_
      refine v_iload_n X (pc := 53) dX3_whereBehind_53 rfl 1 rfl ?_
      obtain ⟨q54, e54, h⟩ := lts h
      refine v_callS X (pc := 54) (st1 := [.int (b2i q54)]) (w' := ([] : va_W)) [.int x1] [] (c_X3_isWay x.l x.g  x1 e54) rfl rfl cw_X3_isWay q_495 q_496 ⟨by decide, by decide⟩ Fr.nil rfl (Nat.le_of_ble_eq_true rfl) dX3_whereBehind_54 ?_
      refine v_ifeqB X (pc := 57) (tgt := 62) dX3_whereBehind_57 (by decide) (fun c => ?_) (fun c => ?_)
      · replace h := hn (nbt c) h
        refine v_iload_n X (pc := 62) dX3_whereBehind_62 rfl 1 rfl ?_
        refine v_bipush X (pc := 63) (v := 97) dX3_whereBehind_63 (by decide) ?_
        refine v_icmpeq X (pc := 65) (tgt := 74) dX3_whereBehind_65 (by decide) (fun c => ?_) (fun c => ?_)
        · replace h := hp c h
          refine v_iconst X (pc := 74) (v := 4) dX3_whereBehind_74 (by decide) ?_
          refine v_goto X (pc := 75) (tgt := 79) dX3_whereBehind_75 (by decide) ?_
          subst h
          exact v_iret X (pc := 79) F dX3_whereBehind_79
        · replace h := hn c h
          refine v_iload_n X (pc := 68) dX3_whereBehind_68 rfl 1 rfl ?_
          refine v_bipush X (pc := 69) (v := 114) dX3_whereBehind_69 (by decide) ?_
          refine v_icmpne X (pc := 71) (tgt := 78) dX3_whereBehind_71 (by decide) (fun c => ?_) (fun c => ?_)
          · replace h := hn c h
            refine v_iconst X (pc := 78) (v := (-1)) dX3_whereBehind_78 (by decide) ?_
            subst h
            exact v_iret X (pc := 79) F dX3_whereBehind_79
          · replace h := hp c h
            refine v_iconst X (pc := 74) (v := 4) dX3_whereBehind_74 (by decide) ?_
            refine v_goto X (pc := 75) (tgt := 79) dX3_whereBehind_75 (by decide) ?_
            subst h
            exact v_iret X (pc := 79) F dX3_whereBehind_79
      · replace h := hp c h
        refine v_iconst X (pc := 60) (v := 2) dX3_whereBehind_60 (by decide) ?_
        subst h
        exact v_iret X (pc := 61) F dX3_whereBehind_61
    · replace h := hn t1 h
      by_cases t2 : x0 = 2
      · replace h := hp t2 h
        refine v_tswIn X (pc := 1) (tgt := 80) (off := 79) dX3_whereBehind_1 (by rw [t2]; decide) (by rw [t2]; decide) (by rw [t2]; decide) (by decide) ?_
        refine v_iload_n X (pc := 80) dX3_whereBehind_80 rfl 1 rfl ?_
        obtain ⟨q81, e81, h⟩ := lts h
        refine v_callS X (pc := 81) (st1 := [.int (b2i q81)]) (w' := ([] : va_W)) [.int x1] [] (c_X3_isDigit x.l x.g  x1 e81) rfl rfl cw_X3_isDigit q_498 q_499 ⟨by decide, by decide⟩ Fr.nil rfl (Nat.le_of_ble_eq_true rfl) dX3_whereBehind_81 ?_
        refine v_ifeqB X (pc := 84) (tgt := 97) dX3_whereBehind_84 (by decide) (fun c => ?_) (fun c => ?_)
        · replace h := hn (nbt c) h
          refine v_iconst X (pc := 97) (v := (-1)) dX3_whereBehind_97 (by decide) ?_
          subst h
          exact v_iret X (pc := 98) F dX3_whereBehind_98
        · replace h := hp c h
          refine v_iload_n X (pc := 87) dX3_whereBehind_87 rfl 1 rfl ?_
          refine v_bipush X (pc := 88) (v := 48) dX3_whereBehind_88 (by decide) ?_
          refine v_icmpeq X (pc := 90) (tgt := 97) dX3_whereBehind_90 (by decide) (fun c => ?_) (fun c => ?_)
          · replace h := hp c h
            refine v_iconst X (pc := 97) (v := (-1)) dX3_whereBehind_97 (by decide) ?_
            subst h
            exact v_iret X (pc := 98) F dX3_whereBehind_98
          · replace h := hn c h
            refine v_iconst X (pc := 93) (v := 3) dX3_whereBehind_93 (by decide) ?_
            refine v_goto X (pc := 94) (tgt := 98) dX3_whereBehind_94 (by decide) ?_
            subst h
            exact v_iret X (pc := 98) F dX3_whereBehind_98
      · replace h := hn t2 h
        by_cases t3 : x0 = 3
        · replace h := hp t3 h
          refine v_tswIn X (pc := 1) (tgt := 99) (off := 98) dX3_whereBehind_1 (by rw [t3]; decide) (by rw [t3]; decide) (by rw [t3]; decide) (by decide) ?_
          refine v_iload_n X (pc := 99) dX3_whereBehind_99 rfl 1 rfl ?_
          obtain ⟨q100, e100, h⟩ := lts h
          refine v_callS X (pc := 100) (st1 := [.int (b2i q100)]) (w' := ([] : va_W)) [.int x1] [] (c_X3_isDigit x.l x.g  x1 e100) rfl rfl cw_X3_isDigit q_498 q_499 ⟨by decide, by decide⟩ Fr.nil rfl (Nat.le_of_ble_eq_true rfl) dX3_whereBehind_100 ?_
          refine v_ifeqB X (pc := 103) (tgt := 108) dX3_whereBehind_103 (by decide) (fun c => ?_) (fun c => ?_)
          · replace h := hn (nbt c) h
            refine v_iload_n X (pc := 108) dX3_whereBehind_108 rfl 1 rfl ?_
            refine v_bipush X (pc := 109) (v := 44) dX3_whereBehind_109 (by decide) ?_
            refine v_icmpne X (pc := 111) (tgt := 118) dX3_whereBehind_111 (by decide) (fun c => ?_) (fun c => ?_)
            · replace h := hn c h
              refine v_iconst X (pc := 118) (v := (-1)) dX3_whereBehind_118 (by decide) ?_
              subst h
              exact v_iret X (pc := 119) F dX3_whereBehind_119
            · replace h := hp c h
              refine v_iconst X (pc := 114) (v := 0) dX3_whereBehind_114 (by decide) ?_
              refine v_goto X (pc := 115) (tgt := 119) dX3_whereBehind_115 (by decide) ?_
              subst h
              exact v_iret X (pc := 119) F dX3_whereBehind_119
          · replace h := hp c h
            refine v_iconst X (pc := 106) (v := 4) dX3_whereBehind_106 (by decide) ?_
            subst h
            exact v_iret X (pc := 107) F dX3_whereBehind_107
        · replace h := hn t3 h
          have u0 : ¬ Int32.toInt x0 = 0 := fun e => t0 ((Int32.toInt_inj (y := 0)).mp e)
          have u1 : ¬ Int32.toInt x0 = 1 := fun e => t1 ((Int32.toInt_inj (y := 1)).mp e)
          have u2 : ¬ Int32.toInt x0 = 2 := fun e => t2 ((Int32.toInt_inj (y := 2)).mp e)
          have u3 : ¬ Int32.toInt x0 = 3 := fun e => t3 ((Int32.toInt_inj (y := 3)).mp e)
          refine v_tswOut X (pc := 1) (tgt := 120) dX3_whereBehind_1 (by omega) (by decide) ?_
          refine v_iload_n X (pc := 120) dX3_whereBehind_120 rfl 1 rfl ?_
          refine v_bipush X (pc := 121) (v := 44) dX3_whereBehind_121 (by decide) ?_
          refine v_icmpne X (pc := 123) (tgt := 130) dX3_whereBehind_123 (by decide) (fun c => ?_) (fun c => ?_)
          · replace h := hn c h
            refine v_iconst X (pc := 130) (v := (-1)) dX3_whereBehind_130 (by decide) ?_
            subst h
            exact v_iret X (pc := 131) F dX3_whereBehind_131
          · replace h := hp c h
            refine v_iconst X (pc := 126) (v := 0) dX3_whereBehind_126 (by decide) ?_
            refine v_goto X (pc := 127) (tgt := 131) dX3_whereBehind_127 (by decide) ?_
            subst h
            exact v_iret X (pc := 131) F dX3_whereBehind_131
theorem cw_X3_whereBehind : CwB yX3_whereBehind cX3_whereBehind 2 (Option.some FieldType.int) 2 := ⟨q_491, q_56, by decide, by decide, by decide +kernel⟩
def f_X3_findFault_L4 (χ : Blk) : Nat → Int32 → Int32 → Option (Int32)
  | 0, _, _ => none
  | n + 1, x1, x2 =>
    (if (χ 0 0) ≤ x2 then (if x1 = 3 then some (-100005) else (if x1 = 4 then some (-100005) else some (χ 0 0))) else (f_X5_at 60 (χ 1) x2).bind fun q18 => lt (f_X3_whereBehind x1 q18) fun q21 => (if q21 = (-1) then some x2 else f_X3_findFault_L4 χ n q21 (x2 + 1)))
set_option maxHeartbeats 4000000 in
set_option maxRecDepth 100000 in
theorem v_X3_findFault_L4 {x : Ctx} (X : Cx x RX3 cX3_findFault 3 2 41) (a : Nat → Nat) (χ : Blk) : ∀ (n : Nat) (x1 : Int32) (x2 : Int32) {res : Int32}, f_X3_findFault_L4 χ n x1 x2 = some res → Fn x (Option.some FieldType.int) (some (.int res)) (wSc x.g a χ) → V x (wSc x.g a χ) [(0, .ref (a 0)), (1, .int x1), (2, .int x2)] [] 4 := by
  intro n
  induction n with
  | zero =>
    intro x1 x2 res h F
    rw [f_X3_findFault_L4] at h
    cases h
  | succ n ih =>
    intro x1 x2 res h F
    rw [f_X3_findFault_L4] at h
    refine v_iload_n X (pc := 4) dX3_findFault_4 rfl 2 rfl ?_
    refine v_aload_n X (pc := 5) dX3_findFault_5 rfl 0 rfl ?_
    refine v_get X (pc := 6) (v := .int (χ 0 0)) uw3 0 rfl rfl 1 (by decide) q_180 rfl rfl dX3_findFault_6 ?_
    refine v_icmpge X (pc := 9) (tgt := 38) dX3_findFault_9 (by decide) (fun c => ?_) (fun c => ?_)
    · replace h := hp c h
      refine v_iload_n X (pc := 38) dX3_findFault_38 rfl 1 rfl ?_
      refine v_iconst X (pc := 39) (v := 3) dX3_findFault_39 (by decide) ?_
      refine v_icmpeq X (pc := 40) (tgt := 48) dX3_findFault_40 (by decide) (fun c => ?_) (fun c => ?_)
      · replace h := hp c h
        refine v_ldc X (pc := 48) (v := (-100005)) q_501 dX3_findFault_48 ?_
        refine v_goto X (pc := 50) (tgt := 57) dX3_findFault_50 (by decide) ?_
        replace h := oi h
        subst h
        exact v_iret X (pc := 57) F dX3_findFault_57
      · replace h := hn c h
        refine v_iload_n X (pc := 43) dX3_findFault_43 rfl 1 rfl ?_
        refine v_iconst X (pc := 44) (v := 4) dX3_findFault_44 (by decide) ?_
        refine v_icmpne X (pc := 45) (tgt := 53) dX3_findFault_45 (by decide) (fun c => ?_) (fun c => ?_)
        · replace h := hn c h
          refine v_aload_n X (pc := 53) dX3_findFault_53 rfl 0 rfl ?_
          refine v_get X (pc := 54) (v := .int (χ 0 0)) uw3 0 rfl rfl 1 (by decide) q_180 rfl rfl dX3_findFault_54 ?_
          replace h := oi h
          subst h
          exact v_iret X (pc := 57) F dX3_findFault_57
        · replace h := hp c h
          refine v_ldc X (pc := 48) (v := (-100005)) q_501 dX3_findFault_48 ?_
          refine v_goto X (pc := 50) (tgt := 57) dX3_findFault_50 (by decide) ?_
          replace h := oi h
          subst h
          exact v_iret X (pc := 57) F dX3_findFault_57
    · replace h := hn c h
      refine v_iload_n X (pc := 12) dX3_findFault_12 rfl 1 rfl ?_
      refine v_aload_n X (pc := 13) dX3_findFault_13 rfl 0 rfl ?_
      refine v_get X (pc := 14) (v := .ref (a 1)) uw3 0 rfl rfl 0 (by decide) q_179 rfl rfl dX3_findFault_14 ?_
      refine v_iload_n X (pc := 17) dX3_findFault_17 rfl 2 rfl ?_
      obtain ⟨q18, e18, h⟩ := ob h
      refine v_callSN X (pc := 18) (st1 := [.int q18, .int x1]) (w' := (wSc x.g a χ)) [.ref (a 1), .int x2] [.int x1] (c_X5_at x.l x.g (a 1) 60 (χ 1) x2 e18) rfl rfl cw_X5_at k_37 q_270 ⟨by decide, by decide⟩ (Fr.of [1] rfl rfl rfl rfl rfl) rfl (Nat.le_of_ble_eq_true rfl) dX3_findFault_18 ?_
      obtain ⟨q21, e21, h⟩ := lts h
      refine v_callS X (pc := 21) (st1 := [.int q21]) (w' := (wSc x.g a χ)) [.int x1, .int q18] [] (c_X3_whereBehind x.l x.g  x1 q18 e21) rfl rfl cw_X3_whereBehind q_489 q_490 ⟨by decide, by decide⟩ Fr.nil rfl (Nat.le_of_ble_eq_true rfl) dX3_findFault_21 ?_
      refine v_istore_n X (pc := 24) (L2 := [(1, .int q21), (0, .ref (a 0)), (2, .int x2)]) dX3_findFault_24 rfl (by decide) rfl ?_
      refine v_iload_n X (pc := 25) dX3_findFault_25 rfl 0 rfl ?_
      refine v_iconst X (pc := 26) (v := (-1)) dX3_findFault_26 (by decide) ?_
      refine v_icmpne X (pc := 27) (tgt := 32) dX3_findFault_27 (by decide) (fun c => ?_) (fun c => ?_)
      · replace h := hn c h
        refine v_iinc X (pc := 32) (v := (x2 + 1)) (L2 := [(2, .int (x2 + 1)), (1, .int q21), (0, .ref (a 0))]) dX3_findFault_32 2 rfl (by first | rfl | decide) (by decide) rfl ?_
        refine v_goto X (pc := 35) (tgt := 4) dX3_findFault_35 (by decide) ?_
        refine v_sub (L2 := [(0, .ref (a 0)), (1, .int q21), (2, .int (x2 + 1))]) [2, 1, 0] rfl ?_
        exact ih q21 (x2 + 1) h F
      · replace h := hp c h
        refine v_iload_n X (pc := 30) dX3_findFault_30 rfl 2 rfl ?_
        replace h := oi h
        subst h
        exact v_iret X (pc := 31) F dX3_findFault_31
def f_X3_findFault (χ : Blk) : Option (Int32) :=
  f_X3_findFault_L4 χ FU 0 0
set_option maxHeartbeats 4000000 in
set_option maxRecDepth 100000 in
theorem c_X3_findFault (l : Launch) (g : Gl) (a : Nat → Nat) (χ : Blk) {res : Int32} (h : f_X3_findFault χ = some res) : Ok l g yX3_findFault cX3_findFault 3 (Option.some FieldType.int) 2 41 [.ref (a 0)] (wSc g a χ) (some (.int res)) (wSc g a χ) := by
  refine Ok.of RX3 (by decide) rfl (Nat.le_of_ble_eq_true rfl) (fun x hl hg X F => ?_)
  subst hg; subst hl
  rw [f_X3_findFault] at h
  show V x (wSc x.g a χ) [(0, .ref (a 0))] [] 0
  refine v_iconst X (pc := 0) (v := 0) dX3_findFault_0 (by decide) ?_
  refine v_istore_n X (pc := 1) (L2 := [(1, .int 0), (0, .ref (a 0))]) dX3_findFault_1 rfl (by decide) rfl ?_
  refine v_iconst X (pc := 2) (v := 0) dX3_findFault_2 (by decide) ?_
  refine v_istore_n X (pc := 3) (L2 := [(2, .int 0), (1, .int 0), (0, .ref (a 0))]) dX3_findFault_3 rfl (by decide) rfl ?_
  refine v_sub (L2 := [(0, .ref (a 0)), (1, .int 0), (2, .int 0)]) [2, 1, 0] rfl ?_
  exact v_X3_findFault_L4 X a χ FU 0 0 h F
theorem cw_X3_findFault : CwB yX3_findFault cX3_findFault 3 (Option.some FieldType.int) 0 := ⟨q_487, q_56, by decide, by decide, by decide +kernel⟩
def f_X3_goToBegin (χ : Blk) : Blk :=
  lt (up χ 0 1 0) fun m2 => m2
set_option maxHeartbeats 4000000 in
set_option maxRecDepth 100000 in
theorem c_X3_goToBegin (l : Launch) (g : Gl) (a : Nat → Nat) (χ : Blk) {res : Blk} (h : f_X3_goToBegin χ = res) : Ok l g yX3_goToBegin cX3_goToBegin 1 (Option.none : Option FieldType) 0 0 [.ref (a 0)] (wSc g a χ) none (wSc g a res) := by
  refine Ok.of RX3 (by decide) rfl (Nat.le_of_ble_eq_true rfl) (fun x hl hg X F => ?_)
  subst hg; subst hl
  rw [f_X3_goToBegin] at h
  show V x (wSc x.g a χ) [(0, .ref (a 0))] [] 0
  refine v_aload_n X (pc := 0) dX3_goToBegin_0 rfl 0 rfl ?_
  refine v_iconst X (pc := 1) (v := 0) dX3_goToBegin_1 (by decide) ?_
  obtain ⟨m2, em2, h⟩ := lts h
  refine v_put X (pc := 2) (w' := (wSc x.g a m2)) uw3 0 rfl rfl 2 (by decide) q_182 rfl tyX3 tyX3_ok nmX3 rfl rfl rfl (Nat.le_of_ble_eq_true rfl) (by rw [← em2]; rfl) dX3_goToBegin_2 ?_
  subst h
  exact v_vret X (pc := 5) F dX3_goToBegin_5
theorem cw_X3_goToBegin : CwB yX3_goToBegin cX3_goToBegin 1 (Option.none : Option FieldType) 0 := ⟨q_510, q_56, by decide, by decide, by decide +kernel⟩
def f_X3_nextCharacter (χ : Blk) : Option (Int32) :=
  (if (χ 0 0) ≤ (χ 0 1) then some 0 else (f_X5_at 60 (χ 1) (χ 0 1)).bind fun q19 => some q19)
set_option maxHeartbeats 4000000 in
set_option maxRecDepth 100000 in
theorem c_X3_nextCharacter (l : Launch) (g : Gl) (a : Nat → Nat) (χ : Blk) {res : Int32} (h : f_X3_nextCharacter χ = some res) : Ok l g yX3_nextCharacter cX3_nextCharacter 1 (Option.some FieldType.int) 1 21 [.ref (a 0)] (wSc g a χ) (some (.int res)) (wSc g a χ) := by
  refine Ok.of RX3 (by decide) rfl (Nat.le_of_ble_eq_true rfl) (fun x hl hg X F => ?_)
  subst hg; subst hl
  rw [f_X3_nextCharacter] at h
  show V x (wSc x.g a χ) [(0, .ref (a 0))] [] 0
  refine v_aload_n X (pc := 0) dX3_nextCharacter_0 rfl 0 rfl ?_
  refine v_get X (pc := 1) (v := .int (χ 0 1)) uw3 0 rfl rfl 2 (by decide) q_182 rfl rfl dX3_nextCharacter_1 ?_
  refine v_aload_n X (pc := 4) dX3_nextCharacter_4 rfl 0 rfl ?_
  refine v_get X (pc := 5) (v := .int (χ 0 0)) uw3 0 rfl rfl 1 (by decide) q_180 rfl rfl dX3_nextCharacter_5 ?_
  refine v_icmpge X (pc := 8) (tgt := 25) dX3_nextCharacter_8 (by decide) (fun c => ?_) (fun c => ?_)
  · replace h := hp c h
    refine v_iconst X (pc := 25) (v := 0) dX3_nextCharacter_25 (by decide) ?_
    replace h := oi h
    subst h
    exact v_iret X (pc := 26) F dX3_nextCharacter_26
  · replace h := hn c h
    refine v_aload_n X (pc := 11) dX3_nextCharacter_11 rfl 0 rfl ?_
    refine v_get X (pc := 12) (v := .ref (a 1)) uw3 0 rfl rfl 0 (by decide) q_179 rfl rfl dX3_nextCharacter_12 ?_
    refine v_aload_n X (pc := 15) dX3_nextCharacter_15 rfl 0 rfl ?_
    refine v_get X (pc := 16) (v := .int (χ 0 1)) uw3 0 rfl rfl 2 (by decide) q_182 rfl rfl dX3_nextCharacter_16 ?_
    obtain ⟨q19, e19, h⟩ := ob h
    refine v_callSN X (pc := 19) (st1 := [.int q19]) (w' := (wSc x.g a χ)) [.ref (a 1), .int (χ 0 1)] [] (c_X5_at x.l x.g (a 1) 60 (χ 1) (χ 0 1) e19) rfl rfl cw_X5_at k_37 q_270 ⟨by decide, by decide⟩ (Fr.of [1] rfl rfl rfl rfl rfl) rfl (Nat.le_of_ble_eq_true rfl) dX3_nextCharacter_19 ?_
    refine v_goto X (pc := 22) (tgt := 26) dX3_nextCharacter_22 (by decide) ?_
    replace h := oi h
    subst h
    exact v_iret X (pc := 26) F dX3_nextCharacter_26
theorem cw_X3_nextCharacter : CwB yX3_nextCharacter cX3_nextCharacter 1 (Option.some FieldType.int) 0 := ⟨q_522, q_56, by decide, by decide, by decide +kernel⟩
def f_X3_readCharacter (χ : Blk) : Option (Int32 × Blk) :=
  (f_X3_nextCharacter χ).bind fun q1 => lt (up χ 0 1 ((χ 0 1) + 1)) fun m12 => some (q1, m12)
set_option maxHeartbeats 4000000 in
set_option maxRecDepth 100000 in
theorem c_X3_readCharacter (l : Launch) (g : Gl) (a : Nat → Nat) (χ : Blk) {res : Int32 × Blk} (h : f_X3_readCharacter χ = some res) : Ok l g yX3_readCharacter cX3_readCharacter 2 (Option.some FieldType.int) 2 41 [.ref (a 0)] (wSc g a χ) (some (.int res.1)) (wSc g a res.2) := by
  refine Ok.of RX3 (by decide) rfl (Nat.le_of_ble_eq_true rfl) (fun x hl hg X F => ?_)
  subst hg; subst hl
  rw [f_X3_readCharacter] at h
  show V x (wSc x.g a χ) [(0, .ref (a 0))] [] 0
  refine v_aload_n X (pc := 0) dX3_readCharacter_0 rfl 0 rfl ?_
  obtain ⟨q1, e1, h⟩ := ob h
  refine v_callV X (pc := 1) (st1 := [.int q1]) (w' := (wSc x.g a χ)) [] [] (c_X3_nextCharacter x.l x.g a χ e1) rfl rfl cw_X3_nextCharacter q_519 q_521 q_12 ⟨by decide, by decide⟩ 0 3 rfl rfl rfl (Fr.all rfl) rfl (Nat.le_of_ble_eq_true rfl) dX3_readCharacter_1 ?_
  refine v_istore_n X (pc := 4) (L2 := [(1, .int q1), (0, .ref (a 0))]) dX3_readCharacter_4 rfl (by decide) rfl ?_
  refine v_aload_n X (pc := 5) dX3_readCharacter_5 rfl 1 rfl ?_
  refine v_dup X (pc := 6) dX3_readCharacter_6 rfl ?_
  refine v_get X (pc := 7) (v := .int (χ 0 1)) uw3 0 rfl rfl 2 (by decide) q_182 rfl rfl dX3_readCharacter_7 ?_
  refine v_iconst X (pc := 10) (v := 1) dX3_readCharacter_10 (by decide) ?_
  refine v_iadd X (pc := 11) dX3_readCharacter_11 ?_
  obtain ⟨m12, em12, h⟩ := lts h
  refine v_put X (pc := 12) (w' := (wSc x.g a m12)) uw3 0 rfl rfl 2 (by decide) q_182 rfl tyX3 tyX3_ok nmX3 rfl rfl rfl (Nat.le_of_ble_eq_true rfl) (by rw [← em12]; rfl) dX3_readCharacter_12 ?_
  refine v_iload_n X (pc := 15) dX3_readCharacter_15 rfl 0 rfl ?_
  replace h := oi h
  subst h
  exact v_iret X (pc := 16) F dX3_readCharacter_16
theorem cw_X3_readCharacter : CwB yX3_readCharacter cX3_readCharacter 2 (Option.some FieldType.int) 0 := ⟨q_518, q_56, by decide, by decide, by decide +kernel⟩
def f_X3_readNumber_L4  : Nat → Blk → Int32 → Int32 → Option (Int32 × Blk)
  | 0, _, _, _ => none
  | n + 1, χ, x1, x2 =>
    (if 2 ≤ x2 then some (x1, χ) else (f_X3_nextCharacter χ).bind fun q10 => lt (f_X3_isDigit q10) fun q13 => (if q13 = true then (f_X3_readCharacter χ).bind fun q24 => f_X3_readNumber_L4  n q24.2 (((10 * x1) + q24.1) - 48) (x2 + 1) else some (x1, χ)))
set_option maxHeartbeats 4000000 in
set_option maxRecDepth 100000 in
theorem v_X3_readNumber_L4 {x : Ctx} (X : Cx x RX3 cX3_readNumber 3 3 62) (a : Nat → Nat)  : ∀ (n : Nat) (χ : Blk) (x1 : Int32) (x2 : Int32) {res : Int32 × Blk}, f_X3_readNumber_L4  n χ x1 x2 = some res → Fn x (Option.some FieldType.int) (some (.int res.1)) (wSc x.g a res.2) → V x (wSc x.g a χ) [(0, .ref (a 0)), (1, .int x1), (2, .int x2)] [] 4 := by
  intro n
  induction n with
  | zero =>
    intro χ x1 x2 res h F
    rw [f_X3_readNumber_L4] at h
    cases h
  | succ n ih =>
    intro χ x1 x2 res h F
    rw [f_X3_readNumber_L4] at h
    refine v_iload_n X (pc := 4) dX3_readNumber_4 rfl 2 rfl ?_
    refine v_iconst X (pc := 5) (v := 2) dX3_readNumber_5 (by decide) ?_
    refine v_icmpge X (pc := 6) (tgt := 38) dX3_readNumber_6 (by decide) (fun c => ?_) (fun c => ?_)
    · replace h := hp c h
      refine v_iload_n X (pc := 38) dX3_readNumber_38 rfl 1 rfl ?_
      replace h := oi h
      subst h
      exact v_iret X (pc := 39) F dX3_readNumber_39
    · replace h := hn c h
      refine v_aload_n X (pc := 9) dX3_readNumber_9 rfl 0 rfl ?_
      obtain ⟨q10, e10, h⟩ := ob h
      refine v_callV X (pc := 10) (st1 := [.int q10]) (w' := (wSc x.g a χ)) [] [] (c_X3_nextCharacter x.l x.g a χ e10) rfl rfl cw_X3_nextCharacter q_519 q_521 q_12 ⟨by decide, by decide⟩ 0 3 rfl rfl rfl (Fr.all rfl) rfl (Nat.le_of_ble_eq_true rfl) dX3_readNumber_10 ?_
      obtain ⟨q13, e13, h⟩ := lts h
      refine v_callS X (pc := 13) (st1 := [.int (b2i q13)]) (w' := (wSc x.g a χ)) [.int q10] [] (c_X3_isDigit x.l x.g  q10 e13) rfl rfl cw_X3_isDigit q_498 q_499 ⟨by decide, by decide⟩ Fr.nil rfl (Nat.le_of_ble_eq_true rfl) dX3_readNumber_13 ?_
      refine v_ifeqB X (pc := 16) (tgt := 38) dX3_readNumber_16 (by decide) (fun c => ?_) (fun c => ?_)
      · replace h := hn (nbt c) h
        refine v_iload_n X (pc := 38) dX3_readNumber_38 rfl 1 rfl ?_
        replace h := oi h
        subst h
        exact v_iret X (pc := 39) F dX3_readNumber_39
      · replace h := hp c h
        refine v_bipush X (pc := 19) (v := 10) dX3_readNumber_19 (by decide) ?_
        refine v_iload_n X (pc := 21) dX3_readNumber_21 rfl 1 rfl ?_
        refine v_imul X (pc := 22) dX3_readNumber_22 ?_
        refine v_aload_n X (pc := 23) dX3_readNumber_23 rfl 0 rfl ?_
        obtain ⟨q24, e24, h⟩ := ob h
        refine v_callV X (pc := 24) (st1 := [.int q24.1, .int (10 * x1)]) (w' := (wSc x.g a q24.2)) [] [.int (10 * x1)] (c_X3_readCharacter x.l x.g a χ e24) rfl rfl cw_X3_readCharacter q_515 q_517 q_11 ⟨by decide, by decide⟩ 0 3 rfl rfl rfl (Fr.all rfl) rfl (Nat.le_of_ble_eq_true rfl) dX3_readNumber_24 ?_
        refine v_iadd X (pc := 27) dX3_readNumber_27 ?_
        refine v_bipush X (pc := 28) (v := 48) dX3_readNumber_28 (by decide) ?_
        refine v_isub X (pc := 30) dX3_readNumber_30 ?_
        refine v_istore_n X (pc := 31) (L2 := [(1, .int (((10 * x1) + q24.1) - 48)), (0, .ref (a 0)), (2, .int x2)]) dX3_readNumber_31 rfl (by decide) rfl ?_
        refine v_iinc X (pc := 32) (v := (x2 + 1)) (L2 := [(2, .int (x2 + 1)), (1, .int (((10 * x1) + q24.1) - 48)), (0, .ref (a 0))]) dX3_readNumber_32 2 rfl (by first | rfl | decide) (by decide) rfl ?_
        refine v_goto X (pc := 35) (tgt := 4) dX3_readNumber_35 (by decide) ?_
        refine v_sub (L2 := [(0, .ref (a 0)), (1, .int (((10 * x1) + q24.1) - 48)), (2, .int (x2 + 1))]) [2, 1, 0] rfl ?_
        exact ih q24.2 (((10 * x1) + q24.1) - 48) (x2 + 1) h F
def f_X3_readNumber (χ : Blk) : Option (Int32 × Blk) :=
  f_X3_readNumber_L4  FU χ 0 0
set_option maxHeartbeats 4000000 in
set_option maxRecDepth 100000 in
theorem c_X3_readNumber (l : Launch) (g : Gl) (a : Nat → Nat) (χ : Blk) {res : Int32 × Blk} (h : f_X3_readNumber χ = some res) : Ok l g yX3_readNumber cX3_readNumber 3 (Option.some FieldType.int) 3 62 [.ref (a 0)] (wSc g a χ) (some (.int res.1)) (wSc g a res.2) := by
  refine Ok.of RX3 (by decide) rfl (Nat.le_of_ble_eq_true rfl) (fun x hl hg X F => ?_)
  subst hg; subst hl
  rw [f_X3_readNumber] at h
  show V x (wSc x.g a χ) [(0, .ref (a 0))] [] 0
  refine v_iconst X (pc := 0) (v := 0) dX3_readNumber_0 (by decide) ?_
  refine v_istore_n X (pc := 1) (L2 := [(1, .int 0), (0, .ref (a 0))]) dX3_readNumber_1 rfl (by decide) rfl ?_
  refine v_iconst X (pc := 2) (v := 0) dX3_readNumber_2 (by decide) ?_
  refine v_istore_n X (pc := 3) (L2 := [(2, .int 0), (1, .int 0), (0, .ref (a 0))]) dX3_readNumber_3 rfl (by decide) rfl ?_
  refine v_sub (L2 := [(0, .ref (a 0)), (1, .int 0), (2, .int 0)]) [2, 1, 0] rfl ?_
  exact v_X3_readNumber_L4 X a  FU χ 0 0 h F
theorem cw_X3_readNumber : CwB yX3_readNumber cX3_readNumber 3 (Option.some FieldType.int) 0 := ⟨q_526, q_56, by decide, by decide, by decide +kernel⟩
def f_X3_readOrder (χ : Blk) : Option (Bool × Blk) :=
  (if (χ 0 1) < (χ 0 0) then (f_X3_readCharacter χ).bind fun q15 => lt (up q15.2 0 3 q15.1) fun m18 => lt (f_X3_isStileLetter (m18 0 3)) fun q25 => (if q25 = true then lt (up m18 0 2 ((m18 0 3) - 65)) fun m39 => (f_X3_readCharacter m39).bind fun q44 => lt (up q44.2 0 3 q44.1) fun m47 => (f_X3_readNumber m47).bind fun q52 => lt (up q52.2 0 4 q52.1) fun m55 => lt (up m55 0 1 ((m55 0 1) + 1)) fun m65 => some (true, m65) else (f_X3_readNumber m18).bind fun q52 => lt (up q52.2 0 4 q52.1) fun m55 => lt (up m55 0 1 ((m55 0 1) + 1)) fun m65 => some (true, m65)) else some (false, χ))
set_option maxHeartbeats 4000000 in
set_option maxRecDepth 100000 in
theorem c_X3_readOrder (l : Launch) (g : Gl) (a : Nat → Nat) (χ : Blk) {res : Bool × Blk} (h : f_X3_readOrder χ = some res) : Ok l g yX3_readOrder cX3_readOrder 1 (Option.some FieldType.boolean) 4 84 [.ref (a 0)] (wSc g a χ) (some (.int (b2i res.1))) (wSc g a res.2) := by
  refine Ok.of RX3 (by decide) rfl (Nat.le_of_ble_eq_true rfl) (fun x hl hg X F => ?_)
  subst hg; subst hl
  rw [f_X3_readOrder] at h
  show V x (wSc x.g a χ) [(0, .ref (a 0))] [] 0
  refine v_aload_n X (pc := 0) dX3_readOrder_0 rfl 0 rfl ?_
  refine v_get X (pc := 1) (v := .int (χ 0 1)) uw3 0 rfl rfl 2 (by decide) q_182 rfl rfl dX3_readOrder_1 ?_
  refine v_aload_n X (pc := 4) dX3_readOrder_4 rfl 0 rfl ?_
  refine v_get X (pc := 5) (v := .int (χ 0 0)) uw3 0 rfl rfl 1 (by decide) q_180 rfl rfl dX3_readOrder_5 ?_
  refine v_icmplt X (pc := 8) (tgt := 13) dX3_readOrder_8 (by decide) (fun c => ?_) (fun c => ?_)
  · replace h := hp c h
    refine v_aload_n X (pc := 13) dX3_readOrder_13 rfl 0 rfl ?_
    refine v_aload_n X (pc := 14) dX3_readOrder_14 rfl 0 rfl ?_
    obtain ⟨q15, e15, h⟩ := ob h
    refine v_callV X (pc := 15) (st1 := [.int q15.1, .ref (a 0)]) (w' := (wSc x.g a q15.2)) [] [.ref (a 0)] (c_X3_readCharacter x.l x.g a χ e15) rfl rfl cw_X3_readCharacter q_515 q_517 q_11 ⟨by decide, by decide⟩ 0 3 rfl rfl rfl (Fr.all rfl) rfl (Nat.le_of_ble_eq_true rfl) dX3_readOrder_15 ?_
    obtain ⟨m18, em18, h⟩ := lts h
    refine v_put X (pc := 18) (w' := (wSc x.g a m18)) uw3 0 rfl rfl 4 (by decide) q_185 rfl tyX3 tyX3_ok nmX3 rfl rfl rfl (Nat.le_of_ble_eq_true rfl) (by rw [← em18]; rfl) dX3_readOrder_18 ?_
    refine v_aload_n X (pc := 21) dX3_readOrder_21 rfl 0 rfl ?_
    refine v_get X (pc := 22) (v := .int (m18 0 3)) uw3 0 rfl rfl 4 (by decide) q_185 rfl rfl dX3_readOrder_22 ?_
    obtain ⟨q25, e25, h⟩ := lts h
    refine v_callS X (pc := 25) (st1 := [.int (b2i q25)]) (w' := (wSc x.g a m18)) [.int (m18 0 3)] [] (c_X3_isStileLetter x.l x.g  (m18 0 3) e25) rfl rfl cw_X3_isStileLetter q_492 q_493 ⟨by decide, by decide⟩ Fr.nil rfl (Nat.le_of_ble_eq_true rfl) dX3_readOrder_25 ?_
    refine v_ifeqB X (pc := 28) (tgt := 50) dX3_readOrder_28 (by decide) (fun c => ?_) (fun c => ?_)
    · replace h := hn (nbt c) h
      refine v_aload_n X (pc := 50) dX3_readOrder_50 rfl 0 rfl ?_
      refine v_aload_n X (pc := 51) dX3_readOrder_51 rfl 0 rfl ?_
      obtain ⟨q52, e52, h⟩ := ob h
      refine v_callV X (pc := 52) (st1 := [.int q52.1, .ref (a 0)]) (w' := (wSc x.g a q52.2)) [] [.ref (a 0)] (c_X3_readNumber x.l x.g a m18 e52) rfl rfl cw_X3_readNumber q_523 q_525 q_13 ⟨by decide, by decide⟩ 0 3 rfl rfl rfl (Fr.all rfl) rfl (Nat.le_of_ble_eq_true rfl) dX3_readOrder_52 ?_
      obtain ⟨m55, em55, h⟩ := lts h
      refine v_put X (pc := 55) (w' := (wSc x.g a m55)) uw3 0 rfl rfl 5 (by decide) q_187 rfl tyX3 tyX3_ok nmX3 rfl rfl rfl (Nat.le_of_ble_eq_true rfl) (by rw [← em55]; rfl) dX3_readOrder_55 ?_
      refine v_aload_n X (pc := 58) dX3_readOrder_58 rfl 0 rfl ?_
      refine v_dup X (pc := 59) dX3_readOrder_59 rfl ?_
      refine v_get X (pc := 60) (v := .int (m55 0 1)) uw3 0 rfl rfl 2 (by decide) q_182 rfl rfl dX3_readOrder_60 ?_
      refine v_iconst X (pc := 63) (v := 1) dX3_readOrder_63 (by decide) ?_
      refine v_iadd X (pc := 64) dX3_readOrder_64 ?_
      obtain ⟨m65, em65, h⟩ := lts h
      refine v_put X (pc := 65) (w' := (wSc x.g a m65)) uw3 0 rfl rfl 2 (by decide) q_182 rfl tyX3 tyX3_ok nmX3 rfl rfl rfl (Nat.le_of_ble_eq_true rfl) (by rw [← em65]; rfl) dX3_readOrder_65 ?_
      refine v_iconst X (pc := 68) (v := 1) dX3_readOrder_68 (by decide) ?_
      replace h := oi h
      subst h
      exact v_bret X (pc := 69) (b := true) F dX3_readOrder_69
    · replace h := hp c h
      refine v_aload_n X (pc := 31) dX3_readOrder_31 rfl 0 rfl ?_
      refine v_aload_n X (pc := 32) dX3_readOrder_32 rfl 0 rfl ?_
      refine v_get X (pc := 33) (v := .int (m18 0 3)) uw3 0 rfl rfl 4 (by decide) q_185 rfl rfl dX3_readOrder_33 ?_
      refine v_bipush X (pc := 36) (v := 65) dX3_readOrder_36 (by decide) ?_
      refine v_isub X (pc := 38) dX3_readOrder_38 ?_
      obtain ⟨m39, em39, h⟩ := lts h
      refine v_put X (pc := 39) (w' := (wSc x.g a m39)) uw3 0 rfl rfl 3 (by decide) q_183 rfl tyX3 tyX3_ok nmX3 rfl rfl rfl (Nat.le_of_ble_eq_true rfl) (by rw [← em39]; rfl) dX3_readOrder_39 ?_
      refine v_aload_n X (pc := 42) dX3_readOrder_42 rfl 0 rfl ?_
      refine v_aload_n X (pc := 43) dX3_readOrder_43 rfl 0 rfl ?_
      obtain ⟨q44, e44, h⟩ := ob h
      refine v_callV X (pc := 44) (st1 := [.int q44.1, .ref (a 0)]) (w' := (wSc x.g a q44.2)) [] [.ref (a 0)] (c_X3_readCharacter x.l x.g a m39 e44) rfl rfl cw_X3_readCharacter q_515 q_517 q_11 ⟨by decide, by decide⟩ 0 3 rfl rfl rfl (Fr.all rfl) rfl (Nat.le_of_ble_eq_true rfl) dX3_readOrder_44 ?_
      obtain ⟨m47, em47, h⟩ := lts h
      refine v_put X (pc := 47) (w' := (wSc x.g a m47)) uw3 0 rfl rfl 4 (by decide) q_185 rfl tyX3 tyX3_ok nmX3 rfl rfl rfl (Nat.le_of_ble_eq_true rfl) (by rw [← em47]; rfl) dX3_readOrder_47 ?_
      refine v_aload_n X (pc := 50) dX3_readOrder_50 rfl 0 rfl ?_
      refine v_aload_n X (pc := 51) dX3_readOrder_51 rfl 0 rfl ?_
      obtain ⟨q52, e52, h⟩ := ob h
      refine v_callV X (pc := 52) (st1 := [.int q52.1, .ref (a 0)]) (w' := (wSc x.g a q52.2)) [] [.ref (a 0)] (c_X3_readNumber x.l x.g a m47 e52) rfl rfl cw_X3_readNumber q_523 q_525 q_13 ⟨by decide, by decide⟩ 0 3 rfl rfl rfl (Fr.all rfl) rfl (Nat.le_of_ble_eq_true rfl) dX3_readOrder_52 ?_
      obtain ⟨m55, em55, h⟩ := lts h
      refine v_put X (pc := 55) (w' := (wSc x.g a m55)) uw3 0 rfl rfl 5 (by decide) q_187 rfl tyX3 tyX3_ok nmX3 rfl rfl rfl (Nat.le_of_ble_eq_true rfl) (by rw [← em55]; rfl) dX3_readOrder_55 ?_
      refine v_aload_n X (pc := 58) dX3_readOrder_58 rfl 0 rfl ?_
      refine v_dup X (pc := 59) dX3_readOrder_59 rfl ?_
      refine v_get X (pc := 60) (v := .int (m55 0 1)) uw3 0 rfl rfl 2 (by decide) q_182 rfl rfl dX3_readOrder_60 ?_
      refine v_iconst X (pc := 63) (v := 1) dX3_readOrder_63 (by decide) ?_
      refine v_iadd X (pc := 64) dX3_readOrder_64 ?_
      obtain ⟨m65, em65, h⟩ := lts h
      refine v_put X (pc := 65) (w' := (wSc x.g a m65)) uw3 0 rfl rfl 2 (by decide) q_182 rfl tyX3 tyX3_ok nmX3 rfl rfl rfl (Nat.le_of_ble_eq_true rfl) (by rw [← em65]; rfl) dX3_readOrder_65 ?_
      refine v_iconst X (pc := 68) (v := 1) dX3_readOrder_68 (by decide) ?_
      replace h := oi h
      subst h
      exact v_bret X (pc := 69) (b := true) F dX3_readOrder_69
  · replace h := hn c h
    refine v_iconst X (pc := 11) (v := 0) dX3_readOrder_11 (by decide) ?_
    replace h := oi h
    subst h
    exact v_bret X (pc := 12) (b := false) F dX3_readOrder_12
theorem cw_X3_readOrder : CwB yX3_readOrder cX3_readOrder 1 (Option.some FieldType.boolean) 0 := ⟨q_514, q_56, by decide, by decide, by decide +kernel⟩
