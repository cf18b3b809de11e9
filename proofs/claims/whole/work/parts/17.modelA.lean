def f_X6_in (x0 : Int32) (x1 : Int32) (x2 : Int32) : Bool :=
  (if x0 < x1 then false else (if x2 < x0 then false else true))
set_option maxHeartbeats 4000000 in
set_option maxRecDepth 100000 in
theorem c_X6_in (l : Launch) (g : Gl)  (x0 : Int32) (x1 : Int32) (x2 : Int32) {res : Bool} (h : f_X6_in x0 x1 x2 = res) : Ok l g yX6_in cX6_in 3 (Option.some FieldType.boolean) 0 0 [.int x0, .int x1, .int x2] ([] : va_W) (some (.int (b2i res))) ([] : va_W) := by
  refine Ok.of RX6 (by decide) rfl (Nat.le_of_ble_eq_true rfl) (fun x hl hg X F => ?_)
  subst hg; subst hl
  rw [f_X6_in] at h
  show V x ([] : va_W) [(0, .int x0), (1, .int x1), (2, .int x2)] [] 0
  refine v_iload_n X (pc := 0) dX6_in_0 rfl 0 rfl ?_
  refine v_iload_n X (pc := 1) dX6_in_1 rfl 1 rfl ?_
  refine v_icmplt X (pc := 2) (tgt := 14) dX6_in_2 (by decide) (fun c => ?_) (fun c => ?_)
  · replace h := hp c h
    refine v_iconst X (pc := 14) (v := 0) dX6_in_14 (by decide) ?_
    subst h
    exact v_bret X (pc := 15) (b := false) F dX6_in_15
  · replace h := hn c h
    refine v_iload_n X (pc := 5) dX6_in_5 rfl 0 rfl ?_
    refine v_iload_n X (pc := 6) dX6_in_6 rfl 2 rfl ?_
    refine v_icmpgt X (pc := 7) (tgt := 14) dX6_in_7 (by decide) (fun c => ?_) (fun c => ?_)
    · replace h := hp c h
      refine v_iconst X (pc := 14) (v := 0) dX6_in_14 (by decide) ?_
      subst h
      exact v_bret X (pc := 15) (b := false) F dX6_in_15
    · replace h := hn c h
      refine v_iconst X (pc := 10) (v := 1) dX6_in_10 (by decide) ?_
      refine v_goto X (pc := 11) (tgt := 15) dX6_in_11 (by decide) ?_
      subst h
      exact v_bret X (pc := 15) (b := true) F dX6_in_15
theorem cw_X6_in : CwB yX6_in cX6_in 3 (Option.some FieldType.boolean) 3 := ⟨q_709, q_57, by decide, by decide, by decide +kernel⟩
def f_X6_copies_L2 (x1 : Int32) (x2 : Int32) : Nat → Blk → Int32 → Option (Blk)
  | 0, _, _ => none
  | n + 1, μ, x3 =>
    (if 256 ≤ x3 then some μ else (if ib ((256 * x1) + x3) 2048 = true then (if ib ((256 * x2) + x3) 2048 = true then lt (upR μ 1 (upd (μ 1) (Int32.toNatClampNeg ((256 * x2) + x3)) ((μ 1) (Int32.toNatClampNeg ((256 * x1) + x3))))) fun m32 => f_X6_copies_L2 x1 x2 n m32 (x3 + 1) else none) else none))
set_option maxHeartbeats 4000000 in
set_option maxRecDepth 100000 in
theorem v_X6_copies_L2 {x : Ctx} (X : Cx x RX6 cX6_copies 4 0 0) (a : Nat → Nat) (x1 : Int32) (x2 : Int32) : ∀ (n : Nat) (μ : Blk) (x3 : Int32) {res : Blk}, f_X6_copies_L2 x1 x2 n μ x3 = some res → Fn x (Option.none : Option FieldType) none (wM x.g a res) → V x (wM x.g a μ) [(0, .ref (a 0)), (1, .int x1), (2, .int x2), (3, .int x3)] [] 2 := by
  intro n
  induction n with
  | zero =>
    intro μ x3 res h F
    rw [f_X6_copies_L2] at h
    cases h
  | succ n ih =>
    intro μ x3 res h F
    rw [f_X6_copies_L2] at h
    refine v_iload_n X (pc := 2) dX6_copies_2 rfl 3 rfl ?_
    refine v_sipush X (pc := 3) (v := 256) dX6_copies_3 (by decide) ?_
    refine v_icmpge X (pc := 6) (tgt := 39) dX6_copies_6 (by decide) (fun c => ?_) (fun c => ?_)
    · replace h := hp c h
      replace h := oi h
      subst h
      exact v_vret X (pc := 39) F dX6_copies_39
    · replace h := hn c h
      refine v_aload_n X (pc := 9) dX6_copies_9 rfl 0 rfl ?_
      refine v_get X (pc := 10) (v := .ref (a 1)) uw6 0 rfl rfl 0 (by decide) q_668 rfl rfl dX6_copies_10 ?_
      refine v_sipush X (pc := 13) (v := 256) dX6_copies_13 (by decide) ?_
      refine v_iload_n X (pc := 16) dX6_copies_16 rfl 2 rfl ?_
      refine v_imul X (pc := 17) dX6_copies_17 ?_
      refine v_iload_n X (pc := 18) dX6_copies_18 rfl 3 rfl ?_
      refine v_iadd X (pc := 19) dX6_copies_19 ?_
      refine v_aload_n X (pc := 20) dX6_copies_20 rfl 0 rfl ?_
      refine v_get X (pc := 21) (v := .ref (a 1)) uw6 0 rfl rfl 0 (by decide) q_668 rfl rfl dX6_copies_21 ?_
      refine v_sipush X (pc := 24) (v := 256) dX6_copies_24 (by decide) ?_
      refine v_iload_n X (pc := 27) dX6_copies_27 rfl 1 rfl ?_
      refine v_imul X (pc := 28) dX6_copies_28 ?_
      refine v_iload_n X (pc := 29) dX6_copies_29 rfl 3 rfl ?_
      refine v_iadd X (pc := 30) dX6_copies_30 ?_
      obtain ⟨g31, h⟩ := og h
      refine v_iald X (pc := 31) (v := ((μ 1) (Int32.toNatClampNeg ((256 * x1) + x3)))) 1 rfl (ib_in g31) rfl dX6_copies_31 ?_
      obtain ⟨g32, h⟩ := og h
      obtain ⟨m32, em32, h⟩ := lts h
      refine v_iast X (pc := 32) (w' := (wM x.g a m32)) 1 rfl (ib_in g32) (by rw [← em32]; rfl) dX6_copies_32 ?_
      refine v_iinc X (pc := 33) (v := (x3 + 1)) (L2 := [(3, .int (x3 + 1)), (0, .ref (a 0)), (1, .int x1), (2, .int x2)]) dX6_copies_33 3 rfl (by first | rfl | decide) (by decide) rfl ?_
      refine v_goto X (pc := 36) (tgt := 2) dX6_copies_36 (by decide) ?_
      refine v_sub (L2 := [(0, .ref (a 0)), (1, .int x1), (2, .int x2), (3, .int (x3 + 1))]) [1, 2, 3, 0] rfl ?_
      exact ih m32 (x3 + 1) h F
def f_X6_copies (μ : Blk) (x1 : Int32) (x2 : Int32) : Option (Blk) :=
  f_X6_copies_L2 x1 x2 FU μ 0
set_option maxHeartbeats 4000000 in
set_option maxRecDepth 100000 in
theorem c_X6_copies (l : Launch) (g : Gl) (a : Nat → Nat) (μ : Blk) (x1 : Int32) (x2 : Int32) {res : Blk} (h : f_X6_copies μ x1 x2 = some res) : Ok l g yX6_copies cX6_copies 4 (Option.none : Option FieldType) 0 0 [.ref (a 0), .int x1, .int x2] (wM g a μ) none (wM g a res) := by
  refine Ok.of RX6 (by decide) rfl (Nat.le_of_ble_eq_true rfl) (fun x hl hg X F => ?_)
  subst hg; subst hl
  rw [f_X6_copies] at h
  show V x (wM x.g a μ) [(0, .ref (a 0)), (1, .int x1), (2, .int x2)] [] 0
  refine v_iconst X (pc := 0) (v := 0) dX6_copies_0 (by decide) ?_
  refine v_istore_n X (pc := 1) (L2 := [(3, .int 0), (0, .ref (a 0)), (1, .int x1), (2, .int x2)]) dX6_copies_1 rfl (by decide) rfl ?_
  refine v_sub (L2 := [(0, .ref (a 0)), (1, .int x1), (2, .int x2), (3, .int 0)]) [1, 2, 3, 0] rfl ?_
  exact v_X6_copies_L2 X a x1 x2 FU μ 0 h F
theorem cw_X6_copies : CwB yX6_copies cX6_copies 4 (Option.none : Option FieldType) 2 := ⟨q_720, q_57, by decide, by decide, by decide +kernel⟩
def f_X6_records_L10  : Nat → Blk → Int32 → Option (Blk)
  | 0, _, _ => none
  | n + 1, μ, x1 =>
    (if 5 ≤ x1 then lt (up μ 0 0 ((μ 0 0) - 1)) fun m36 => lt (up m36 0 0 ((m36 0 0) + 1)) fun m46 => (f_X6_copies m46 0 (m46 0 0)).bind fun q55 => some q55 else (f_X6_copies μ (x1 + 1) x1).bind fun q20 => f_X6_records_L10  n q20 (x1 + 1))
set_option maxHeartbeats 4000000 in
set_option maxRecDepth 100000 in
theorem v_X6_records_L10 {x : Ctx} (X : Cx x RX6 cX6_records 2 1 23) (a : Nat → Nat)  : ∀ (n : Nat) (μ : Blk) (x1 : Int32) {res : Blk}, f_X6_records_L10  n μ x1 = some res → Fn x (Option.none : Option FieldType) none (wM x.g a res) → V x (wM x.g a μ) [(0, .ref (a 0)), (1, .int x1)] [] 10 := by
  intro n
  induction n with
  | zero =>
    intro μ x1 res h F
    rw [f_X6_records_L10] at h
    cases h
  | succ n ih =>
    intro μ x1 res h F
    rw [f_X6_records_L10] at h
    refine v_iload_n X (pc := 10) dX6_records_10 rfl 1 rfl ?_
    refine v_iconst X (pc := 11) (v := 5) dX6_records_11 (by decide) ?_
    refine v_icmpge X (pc := 12) (tgt := 29) dX6_records_12 (by decide) (fun c => ?_) (fun c => ?_)
    · replace h := hp c h
      refine v_aload_n X (pc := 29) dX6_records_29 rfl 0 rfl ?_
      refine v_dup X (pc := 30) dX6_records_30 rfl ?_
      refine v_get X (pc := 31) (v := .int (μ 0 0)) uw6 0 rfl rfl 1 (by decide) q_669 rfl rfl dX6_records_31 ?_
      refine v_iconst X (pc := 34) (v := 1) dX6_records_34 (by decide) ?_
      refine v_isub X (pc := 35) dX6_records_35 ?_
      obtain ⟨m36, em36, h⟩ := lts h
      refine v_put X (pc := 36) (w' := (wM x.g a m36)) uw6 0 rfl rfl 1 (by decide) q_669 rfl tyX6 tyX6_ok nmX6 rfl rfl rfl (Nat.le_of_ble_eq_true rfl) (by rw [← em36]; rfl) dX6_records_36 ?_
      refine v_aload_n X (pc := 39) dX6_records_39 rfl 0 rfl ?_
      refine v_dup X (pc := 40) dX6_records_40 rfl ?_
      refine v_get X (pc := 41) (v := .int (m36 0 0)) uw6 0 rfl rfl 1 (by decide) q_669 rfl rfl dX6_records_41 ?_
      refine v_iconst X (pc := 44) (v := 1) dX6_records_44 (by decide) ?_
      refine v_iadd X (pc := 45) dX6_records_45 ?_
      obtain ⟨m46, em46, h⟩ := lts h
      refine v_put X (pc := 46) (w' := (wM x.g a m46)) uw6 0 rfl rfl 1 (by decide) q_669 rfl tyX6 tyX6_ok nmX6 rfl rfl rfl (Nat.le_of_ble_eq_true rfl) (by rw [← em46]; rfl) dX6_records_46 ?_
      refine v_aload_n X (pc := 49) dX6_records_49 rfl 0 rfl ?_
      refine v_iconst X (pc := 50) (v := 0) dX6_records_50 (by decide) ?_
      refine v_aload_n X (pc := 51) dX6_records_51 rfl 0 rfl ?_
      refine v_get X (pc := 52) (v := .int (m46 0 0)) uw6 0 rfl rfl 1 (by decide) q_669 rfl rfl dX6_records_52 ?_
      obtain ⟨q55, e55, h⟩ := ob h
      refine v_callV X (pc := 55) (st1 := []) (w' := (wM x.g a q55)) [.int 0, .int (m46 0 0)] [] (c_X6_copies x.l x.g a m46 0 (m46 0 0) e55) rfl rfl cw_X6_copies q_717 q_719 q_21 ⟨by decide, by decide⟩ 0 6 rfl rfl rfl (Fr.all rfl) rfl (Nat.le_of_ble_eq_true rfl) dX6_records_55 ?_
      replace h := oi h
      subst h
      exact v_vret X (pc := 58) F dX6_records_58
    · replace h := hn c h
      refine v_aload_n X (pc := 15) dX6_records_15 rfl 0 rfl ?_
      refine v_iload_n X (pc := 16) dX6_records_16 rfl 1 rfl ?_
      refine v_iconst X (pc := 17) (v := 1) dX6_records_17 (by decide) ?_
      refine v_iadd X (pc := 18) dX6_records_18 ?_
      refine v_iload_n X (pc := 19) dX6_records_19 rfl 1 rfl ?_
      obtain ⟨q20, e20, h⟩ := ob h
      refine v_callV X (pc := 20) (st1 := []) (w' := (wM x.g a q20)) [.int (x1 + 1), .int x1] [] (c_X6_copies x.l x.g a μ (x1 + 1) x1 e20) rfl rfl cw_X6_copies q_717 q_719 q_21 ⟨by decide, by decide⟩ 0 6 rfl rfl rfl (Fr.all rfl) rfl (Nat.le_of_ble_eq_true rfl) dX6_records_20 ?_
      refine v_iinc X (pc := 23) (v := (x1 + 1)) (L2 := [(1, .int (x1 + 1)), (0, .ref (a 0))]) dX6_records_23 1 rfl (by first | rfl | decide) (by decide) rfl ?_
      refine v_goto X (pc := 26) (tgt := 10) dX6_records_26 (by decide) ?_
      refine v_sub (L2 := [(0, .ref (a 0)), (1, .int (x1 + 1))]) [1, 0] rfl ?_
      exact ih q20 (x1 + 1) h F
def f_X6_records (μ : Blk) : Option (Blk) :=
  (if (μ 0 0) = 5 then f_X6_records_L10  FU μ 1 else lt (up μ 0 0 ((μ 0 0) + 1)) fun m46 => (f_X6_copies m46 0 (m46 0 0)).bind fun q55 => some q55)
set_option maxHeartbeats 4000000 in
set_option maxRecDepth 100000 in
theorem c_X6_records (l : Launch) (g : Gl) (a : Nat → Nat) (μ : Blk) {res : Blk} (h : f_X6_records μ = some res) : Ok l g yX6_records cX6_records 2 (Option.none : Option FieldType) 1 23 [.ref (a 0)] (wM g a μ) none (wM g a res) := by
  refine Ok.of RX6 (by decide) rfl (Nat.le_of_ble_eq_true rfl) (fun x hl hg X F => ?_)
  subst hg; subst hl
  rw [f_X6_records] at h
  show V x (wM x.g a μ) [(0, .ref (a 0))] [] 0
  refine v_aload_n X (pc := 0) dX6_records_0 rfl 0 rfl ?_
  refine v_get X (pc := 1) (v := .int (μ 0 0)) uw6 0 rfl rfl 1 (by decide) q_669 rfl rfl dX6_records_1 ?_
  refine v_iconst X (pc := 4) (v := 5) dX6_records_4 (by decide) ?_
  refine v_icmpne X (pc := 5) (tgt := 39) dX6_records_5 (by decide) (fun c => ?_) (fun c => ?_)
  · replace h := hn c h
    refine v_aload_n X (pc := 39) dX6_records_39 rfl 0 rfl ?_
    refine v_dup X (pc := 40) dX6_records_40 rfl ?_
    refine v_get X (pc := 41) (v := .int (μ 0 0)) uw6 0 rfl rfl 1 (by decide) q_669 rfl rfl dX6_records_41 ?_
    refine v_iconst X (pc := 44) (v := 1) dX6_records_44 (by decide) ?_
    refine v_iadd X (pc := 45) dX6_records_45 ?_
    obtain ⟨m46, em46, h⟩ := lts h
    refine v_put X (pc := 46) (w' := (wM x.g a m46)) uw6 0 rfl rfl 1 (by decide) q_669 rfl tyX6 tyX6_ok nmX6 rfl rfl rfl (Nat.le_of_ble_eq_true rfl) (by rw [← em46]; rfl) dX6_records_46 ?_
    refine v_aload_n X (pc := 49) dX6_records_49 rfl 0 rfl ?_
    refine v_iconst X (pc := 50) (v := 0) dX6_records_50 (by decide) ?_
    refine v_aload_n X (pc := 51) dX6_records_51 rfl 0 rfl ?_
    refine v_get X (pc := 52) (v := .int (m46 0 0)) uw6 0 rfl rfl 1 (by decide) q_669 rfl rfl dX6_records_52 ?_
    obtain ⟨q55, e55, h⟩ := ob h
    refine v_callV X (pc := 55) (st1 := []) (w' := (wM x.g a q55)) [.int 0, .int (m46 0 0)] [] (c_X6_copies x.l x.g a m46 0 (m46 0 0) e55) rfl rfl cw_X6_copies q_717 q_719 q_21 ⟨by decide, by decide⟩ 0 6 rfl rfl rfl (Fr.all rfl) rfl (Nat.le_of_ble_eq_true rfl) dX6_records_55 ?_
    replace h := oi h
    subst h
    exact v_vret X (pc := 58) F dX6_records_58
  · replace h := hp c h
    refine v_iconst X (pc := 8) (v := 1) dX6_records_8 (by decide) ?_
    refine v_istore_n X (pc := 9) (L2 := [(1, .int 1), (0, .ref (a 0))]) dX6_records_9 rfl (by decide) rfl ?_
    refine v_sub (L2 := [(0, .ref (a 0)), (1, .int 1)]) [1, 0] rfl ?_
    exact v_X6_records_L10 X a  FU μ 1 h F
theorem cw_X6_records : CwB yX6_records cX6_records 2 (Option.none : Option FieldType) 0 := ⟨q_716, q_57, by decide, by decide, by decide +kernel⟩
def f_X6_place (x0 : Int32) (x1 : Int32) : Int32 :=
  ((x0 + 16) + (20 * x1))
set_option maxHeartbeats 4000000 in
set_option maxRecDepth 100000 in
theorem c_X6_place (l : Launch) (g : Gl)  (x0 : Int32) (x1 : Int32) {res : Int32} (h : f_X6_place x0 x1 = res) : Ok l g yX6_place cX6_place 2 (Option.some FieldType.int) 0 0 [.int x0, .int x1] ([] : va_W) (some (.int res)) ([] : va_W) := by
  refine Ok.of RX6 (by decide) rfl (Nat.le_of_ble_eq_true rfl) (fun x hl hg X F => ?_)
  subst hg; subst hl
  rw [f_X6_place] at h
  show V x ([] : va_W) [(0, .int x0), (1, .int x1)] [] 0
  refine v_iload_n X (pc := 0) dX6_place_0 rfl 0 rfl ?_
  refine v_bipush X (pc := 1) (v := 16) dX6_place_1 (by decide) ?_
  refine v_iadd X (pc := 3) dX6_place_3 ?_
  refine v_bipush X (pc := 4) (v := 20) dX6_place_4 (by decide) ?_
  refine v_iload_n X (pc := 6) dX6_place_6 rfl 1 rfl ?_
  refine v_imul X (pc := 7) dX6_place_7 ?_
  refine v_iadd X (pc := 8) dX6_place_8 ?_
  subst h
  exact v_iret X (pc := 9) F dX6_place_9
theorem cw_X6_place : CwB yX6_place cX6_place 2 (Option.some FieldType.int) 2 := ⟨q_723, q_57, by decide, by decide, by decide +kernel⟩
def f_X6_isStile (μ : Blk) (x1 : Int32) : Bool :=
  lt (f_X6_in x1 0 (((μ 1) 3) - 1)) fun q10 => q10
set_option maxHeartbeats 4000000 in
set_option maxRecDepth 100000 in
theorem c_X6_isStile (l : Launch) (g : Gl) (a : Nat → Nat) (μ : Blk) (x1 : Int32) {res : Bool} (h : f_X6_isStile μ x1 = res) : Ok l g yX6_isStile cX6_isStile 2 (Option.some FieldType.boolean) 1 22 [.ref (a 0), .int x1] (wM g a μ) (some (.int (b2i res))) (wM g a μ) := by
  refine Ok.of RX6 (by decide) rfl (Nat.le_of_ble_eq_true rfl) (fun x hl hg X F => ?_)
  subst hg; subst hl
  rw [f_X6_isStile] at h
  show V x (wM x.g a μ) [(0, .ref (a 0)), (1, .int x1)] [] 0
  refine v_iload_n X (pc := 0) dX6_isStile_0 rfl 1 rfl ?_
  refine v_iconst X (pc := 1) (v := 0) dX6_isStile_1 (by decide) ?_
  refine v_aload_n X (pc := 2) dX6_isStile_2 rfl 0 rfl ?_
  refine v_get X (pc := 3) (v := .ref (a 1)) uw6 0 rfl rfl 0 (by decide) q_668 rfl rfl dX6_isStile_3 ?_
  refine v_iconst X (pc := 6) (v := 3) dX6_isStile_6 (by decide) ?_
  refine v_iald X (pc := 7) (v := ((μ 1) 3)) 1 rfl (ib_in (by decide)) rfl dX6_isStile_7 ?_
  refine v_iconst X (pc := 8) (v := 1) dX6_isStile_8 (by decide) ?_
  refine v_isub X (pc := 9) dX6_isStile_9 ?_
  obtain ⟨q10, e10, h⟩ := lts h
  refine v_callS X (pc := 10) (st1 := [.int (b2i q10)]) (w' := (wM x.g a μ)) [.int x1, .int 0, .int (((μ 1) 3) - 1)] [] (c_X6_in x.l x.g  x1 0 (((μ 1) 3) - 1) e10) rfl rfl cw_X6_in q_707 q_708 ⟨by decide, by decide⟩ Fr.nil rfl (Nat.le_of_ble_eq_true rfl) dX6_isStile_10 ?_
  subst h
  exact v_bret X (pc := 13) (b := q10) F dX6_isStile_13
theorem cw_X6_isStile : CwB yX6_isStile cX6_isStile 2 (Option.some FieldType.boolean) 1 := ⟨q_731, q_57, by decide, by decide, by decide +kernel⟩
def f_X6_isHall (x0 : Int32) : Bool :=
  lt (f_X6_in x0 1 5) fun q3 => q3
set_option maxHeartbeats 4000000 in
set_option maxRecDepth 100000 in
theorem c_X6_isHall (l : Launch) (g : Gl)  (x0 : Int32) {res : Bool} (h : f_X6_isHall x0 = res) : Ok l g yX6_isHall cX6_isHall 1 (Option.some FieldType.boolean) 1 22 [.int x0] ([] : va_W) (some (.int (b2i res))) ([] : va_W) := by
  refine Ok.of RX6 (by decide) rfl (Nat.le_of_ble_eq_true rfl) (fun x hl hg X F => ?_)
  subst hg; subst hl
  rw [f_X6_isHall] at h
  show V x ([] : va_W) [(0, .int x0)] [] 0
  refine v_iload_n X (pc := 0) dX6_isHall_0 rfl 0 rfl ?_
  refine v_iconst X (pc := 1) (v := 1) dX6_isHall_1 (by decide) ?_
  refine v_iconst X (pc := 2) (v := 5) dX6_isHall_2 (by decide) ?_
  obtain ⟨q3, e3, h⟩ := lts h
  refine v_callS X (pc := 3) (st1 := [.int (b2i q3)]) (w' := ([] : va_W)) [.int x0, .int 1, .int 5] [] (c_X6_in x.l x.g  x0 1 5 e3) rfl rfl cw_X6_in q_707 q_708 ⟨by decide, by decide⟩ Fr.nil rfl (Nat.le_of_ble_eq_true rfl) dX6_isHall_3 ?_
  subst h
  exact v_bret X (pc := 6) (b := q3) F dX6_isHall_6
theorem cw_X6_isHall : CwB yX6_isHall cX6_isHall 1 (Option.some FieldType.boolean) 1 := ⟨q_738, q_57, by decide, by decide, by decide +kernel⟩
def f_X6_counted (μ : Blk) (x1 : Int32) (x2 : Int32) : Option (Int32) :=
  (if ib ((x1 + 4) + (4 * x2)) 2048 = true then some ((μ 1) (Int32.toNatClampNeg ((x1 + 4) + (4 * x2)))) else none)
set_option maxHeartbeats 4000000 in
set_option maxRecDepth 100000 in
theorem c_X6_counted (l : Launch) (g : Gl) (a : Nat → Nat) (μ : Blk) (x1 : Int32) (x2 : Int32) {res : Int32} (h : f_X6_counted μ x1 x2 = some res) : Ok l g yX6_counted cX6_counted 3 (Option.some FieldType.int) 0 0 [.ref (a 0), .int x1, .int x2] (wM g a μ) (some (.int res)) (wM g a μ) := by
  refine Ok.of RX6 (by decide) rfl (Nat.le_of_ble_eq_true rfl) (fun x hl hg X F => ?_)
  subst hg; subst hl
  rw [f_X6_counted] at h
  show V x (wM x.g a μ) [(0, .ref (a 0)), (1, .int x1), (2, .int x2)] [] 0
  refine v_aload_n X (pc := 0) dX6_counted_0 rfl 0 rfl ?_
  refine v_get X (pc := 1) (v := .ref (a 1)) uw6 0 rfl rfl 0 (by decide) q_668 rfl rfl dX6_counted_1 ?_
  refine v_iload_n X (pc := 4) dX6_counted_4 rfl 1 rfl ?_
  refine v_iconst X (pc := 5) (v := 4) dX6_counted_5 (by decide) ?_
  refine v_iadd X (pc := 6) dX6_counted_6 ?_
  refine v_iconst X (pc := 7) (v := 4) dX6_counted_7 (by decide) ?_
  refine v_iload_n X (pc := 8) dX6_counted_8 rfl 2 rfl ?_
  refine v_imul X (pc := 9) dX6_counted_9 ?_
  refine v_iadd X (pc := 10) dX6_counted_10 ?_
  obtain ⟨g11, h⟩ := og h
  refine v_iald X (pc := 11) (v := ((μ 1) (Int32.toNatClampNeg ((x1 + 4) + (4 * x2))))) 1 rfl (ib_in g11) rfl dX6_counted_11 ?_
  replace h := oi h
  subst h
  exact v_iret X (pc := 12) F dX6_counted_12
theorem cw_X6_counted : CwB yX6_counted cX6_counted 3 (Option.some FieldType.int) 2 := ⟨q_786, q_57, by decide, by decide, by decide +kernel⟩
def f_X6_apart (x0 : Int32) (x1 : Int32) : Int32 :=
  (if x0 ≤ x1 then (x1 - x0) else (x0 - x1))
set_option maxHeartbeats 4000000 in
set_option maxRecDepth 100000 in
theorem c_X6_apart (l : Launch) (g : Gl)  (x0 : Int32) (x1 : Int32) {res : Int32} (h : f_X6_apart x0 x1 = res) : Ok l g yX6_apart cX6_apart 2 (Option.some FieldType.int) 0 0 [.int x0, .int x1] ([] : va_W) (some (.int res)) ([] : va_W) := by
  refine Ok.of RX6 (by decide) rfl (Nat.le_of_ble_eq_true rfl) (fun x hl hg X F => ?_)
  subst hg; subst hl
  rw [f_X6_apart] at h
  show V x ([] : va_W) [(0, .int x0), (1, .int x1)] [] 0
  refine v_iload_n X (pc := 0) dX6_apart_0 rfl 0 rfl ?_
  refine v_iload_n X (pc := 1) dX6_apart_1 rfl 1 rfl ?_
  refine v_icmple X (pc := 2) (tgt := 11) dX6_apart_2 (by decide) (fun c => ?_) (fun c => ?_)
  · replace h := hp c h
    refine v_iload_n X (pc := 11) dX6_apart_11 rfl 1 rfl ?_
    refine v_iload_n X (pc := 12) dX6_apart_12 rfl 0 rfl ?_
    refine v_isub X (pc := 13) dX6_apart_13 ?_
    subst h
    exact v_iret X (pc := 14) F dX6_apart_14
  · replace h := hn c h
    refine v_iload_n X (pc := 5) dX6_apart_5 rfl 0 rfl ?_
    refine v_iload_n X (pc := 6) dX6_apart_6 rfl 1 rfl ?_
    refine v_isub X (pc := 7) dX6_apart_7 ?_
    refine v_goto X (pc := 8) (tgt := 14) dX6_apart_8 (by decide) ?_
    subst h
    exact v_iret X (pc := 14) F dX6_apart_14
theorem cw_X6_apart : CwB yX6_apart cX6_apart 2 (Option.some FieldType.int) 2 := ⟨q_789, q_57, by decide, by decide, by decide +kernel⟩
def f_X6_gap (μ : Blk) (x1 : Int32) : Option (Int32) :=
  lt (f_X6_place 0 x1) fun q2 => (f_X6_counted μ q2 0).bind fun q9 => (f_X6_counted μ q2 3).bind fun q15 => lt (f_X6_apart q9 q15) fun q18 => (f_X6_counted μ q2 1).bind fun q24 => (f_X6_counted μ q2 2).bind fun q30 => lt (f_X6_apart q24 q30) fun q33 => some (q18 + q33)
set_option maxHeartbeats 4000000 in
set_option maxRecDepth 100000 in
theorem c_X6_gap (l : Launch) (g : Gl) (a : Nat → Nat) (μ : Blk) (x1 : Int32) {res : Int32} (h : f_X6_gap μ x1 = some res) : Ok l g yX6_gap cX6_gap 3 (Option.some FieldType.int) 1 22 [.ref (a 0), .int x1] (wM g a μ) (some (.int res)) (wM g a μ) := by
  refine Ok.of RX6 (by decide) rfl (Nat.le_of_ble_eq_true rfl) (fun x hl hg X F => ?_)
  subst hg; subst hl
  rw [f_X6_gap] at h
  show V x (wM x.g a μ) [(0, .ref (a 0)), (1, .int x1)] [] 0
  refine v_iconst X (pc := 0) (v := 0) dX6_gap_0 (by decide) ?_
  refine v_iload_n X (pc := 1) dX6_gap_1 rfl 1 rfl ?_
  obtain ⟨q2, e2, h⟩ := lts h
  refine v_callS X (pc := 2) (st1 := [.int q2]) (w' := (wM x.g a μ)) [.int 0, .int x1] [] (c_X6_place x.l x.g  0 x1 e2) rfl rfl cw_X6_place q_721 q_722 ⟨by decide, by decide⟩ Fr.nil rfl (Nat.le_of_ble_eq_true rfl) dX6_gap_2 ?_
  refine v_istore_n X (pc := 5) (L2 := [(2, .int q2), (0, .ref (a 0)), (1, .int x1)]) dX6_gap_5 rfl (by decide) rfl ?_
  refine v_aload_n X (pc := 6) dX6_gap_6 rfl 1 rfl ?_
  refine v_iload_n X (pc := 7) dX6_gap_7 rfl 0 rfl ?_
  refine v_iconst X (pc := 8) (v := 0) dX6_gap_8 (by decide) ?_
  obtain ⟨q9, e9, h⟩ := ob h
  refine v_callV X (pc := 9) (st1 := [.int q9]) (w' := (wM x.g a μ)) [.int q2, .int 0] [] (c_X6_counted x.l x.g a μ q2 0 e9) rfl rfl cw_X6_counted q_783 q_785 q_31 ⟨by decide, by decide⟩ 0 6 rfl rfl rfl (Fr.all rfl) rfl (Nat.le_of_ble_eq_true rfl) dX6_gap_9 ?_
  refine v_aload_n X (pc := 12) dX6_gap_12 rfl 1 rfl ?_
  refine v_iload_n X (pc := 13) dX6_gap_13 rfl 0 rfl ?_
  refine v_iconst X (pc := 14) (v := 3) dX6_gap_14 (by decide) ?_
  obtain ⟨q15, e15, h⟩ := ob h
  refine v_callV X (pc := 15) (st1 := [.int q15, .int q9]) (w' := (wM x.g a μ)) [.int q2, .int 3] [.int q9] (c_X6_counted x.l x.g a μ q2 3 e15) rfl rfl cw_X6_counted q_783 q_785 q_31 ⟨by decide, by decide⟩ 0 6 rfl rfl rfl (Fr.all rfl) rfl (Nat.le_of_ble_eq_true rfl) dX6_gap_15 ?_
  obtain ⟨q18, e18, h⟩ := lts h
  refine v_callS X (pc := 18) (st1 := [.int q18]) (w' := (wM x.g a μ)) [.int q9, .int q15] [] (c_X6_apart x.l x.g  q9 q15 e18) rfl rfl cw_X6_apart q_787 q_788 ⟨by decide, by decide⟩ Fr.nil rfl (Nat.le_of_ble_eq_true rfl) dX6_gap_18 ?_
  refine v_aload_n X (pc := 21) dX6_gap_21 rfl 1 rfl ?_
  refine v_iload_n X (pc := 22) dX6_gap_22 rfl 0 rfl ?_
  refine v_iconst X (pc := 23) (v := 1) dX6_gap_23 (by decide) ?_
  obtain ⟨q24, e24, h⟩ := ob h
  refine v_callV X (pc := 24) (st1 := [.int q24, .int q18]) (w' := (wM x.g a μ)) [.int q2, .int 1] [.int q18] (c_X6_counted x.l x.g a μ q2 1 e24) rfl rfl cw_X6_counted q_783 q_785 q_31 ⟨by decide, by decide⟩ 0 6 rfl rfl rfl (Fr.all rfl) rfl (Nat.le_of_ble_eq_true rfl) dX6_gap_24 ?_
  refine v_aload_n X (pc := 27) dX6_gap_27 rfl 1 rfl ?_
  refine v_iload_n X (pc := 28) dX6_gap_28 rfl 0 rfl ?_
  refine v_iconst X (pc := 29) (v := 2) dX6_gap_29 (by decide) ?_
  obtain ⟨q30, e30, h⟩ := ob h
  refine v_callV X (pc := 30) (st1 := [.int q30, .int q24, .int q18]) (w' := (wM x.g a μ)) [.int q2, .int 2] [.int q24, .int q18] (c_X6_counted x.l x.g a μ q2 2 e30) rfl rfl cw_X6_counted q_783 q_785 q_31 ⟨by decide, by decide⟩ 0 6 rfl rfl rfl (Fr.all rfl) rfl (Nat.le_of_ble_eq_true rfl) dX6_gap_30 ?_
  obtain ⟨q33, e33, h⟩ := lts h
  refine v_callS X (pc := 33) (st1 := [.int q33, .int q18]) (w' := (wM x.g a μ)) [.int q24, .int q30] [.int q18] (c_X6_apart x.l x.g  q24 q30 e33) rfl rfl cw_X6_apart q_787 q_788 ⟨by decide, by decide⟩ Fr.nil rfl (Nat.le_of_ble_eq_true rfl) dX6_gap_33 ?_
  refine v_iadd X (pc := 36) dX6_gap_36 ?_
  replace h := oi h
  subst h
  exact v_iret X (pc := 37) F dX6_gap_37
theorem cw_X6_gap : CwB yX6_gap cX6_gap 3 (Option.some FieldType.int) 1 := ⟨q_782, q_57, by decide, by decide, by decide +kernel⟩
def f_X6_barred (μ : Blk) (x1 : Int32) (x2 : Bool) : Option (Int32) :=
  (if ib (x1 + 2) 2048 = true then (if ib (x1 + 3) 2048 = true then (if ((μ 1) (Int32.toNatClampNeg (x1 + 3))) ≤ 0 then (if ((μ 1) (Int32.toNatClampNeg (x1 + 2))) = 0 then some 0 else (if x2 = true then (if ((μ 1) (Int32.toNatClampNeg (x1 + 2))) = 1 then some 0 else some 2) else (if ((μ 1) (Int32.toNatClampNeg (x1 + 2))) = 2 then some 0 else some 2))) else some 1) else none) else none)
set_option maxHeartbeats 4000000 in
set_option maxRecDepth 100000 in
theorem c_X6_barred (l : Launch) (g : Gl) (a : Nat → Nat) (μ : Blk) (x1 : Int32) (x2 : Bool) {res : Int32} (h : f_X6_barred μ x1 x2 = some res) : Ok l g yX6_barred cX6_barred 4 (Option.some FieldType.int) 0 0 [.ref (a 0), .int x1, .int (b2i x2)] (wM g a μ) (some (.int res)) (wM g a μ) := by
  refine Ok.of RX6 (by decide) rfl (Nat.le_of_ble_eq_true rfl) (fun x hl hg X F => ?_)
  subst hg; subst hl
  rw [f_X6_barred] at h
  show V x (wM x.g a μ) [(0, .ref (a 0)), (1, .int x1), (2, .int (b2i x2))] [] 0
  refine v_aload_n X (pc := 0) dX6_barred_0 rfl 0 rfl ?_
  refine v_get X (pc := 1) (v := .ref (a 1)) uw6 0 rfl rfl 0 (by decide) q_668 rfl rfl dX6_barred_1 ?_
  refine v_iload_n X (pc := 4) dX6_barred_4 rfl 1 rfl ?_
  refine v_iconst X (pc := 5) (v := 2) dX6_barred_5 (by decide) ?_
  refine v_iadd X (pc := 6) dX6_barred_6 ?_
  obtain ⟨g7, h⟩ := og h
  refine v_iald X (pc := 7) (v := ((μ 1) (Int32.toNatClampNeg (x1 + 2)))) 1 rfl (ib_in g7) rfl dX6_barred_7 ?_
  refine v_istore_n X (pc := 8) (L2 := [(3, .int ((μ 1) (Int32.toNatClampNeg (x1 + 2)))), (0, .ref (a 0)), (1, .int x1), (2, .int (b2i x2))]) dX6_barred_8 rfl (by decide) rfl ?_
  refine v_aload_n X (pc := 9) dX6_barred_9 rfl 1 rfl ?_
  refine v_get X (pc := 10) (v := .ref (a 1)) uw6 0 rfl rfl 0 (by decide) q_668 rfl rfl dX6_barred_10 ?_
  refine v_iload_n X (pc := 13) dX6_barred_13 rfl 2 rfl ?_
  refine v_iconst X (pc := 14) (v := 3) dX6_barred_14 (by decide) ?_
  refine v_iadd X (pc := 15) dX6_barred_15 ?_
  obtain ⟨g16, h⟩ := og h
  refine v_iald X (pc := 16) (v := ((μ 1) (Int32.toNatClampNeg (x1 + 3)))) 1 rfl (ib_in g16) rfl dX6_barred_16 ?_
  refine v_ifle X (pc := 17) (tgt := 24) dX6_barred_17 (by decide) (fun c => ?_) (fun c => ?_)
  · replace h := hp c h
    refine v_iload_n X (pc := 24) dX6_barred_24 rfl 0 rfl ?_
    refine v_ifeq X (pc := 25) (tgt := 41) dX6_barred_25 (by decide) (fun c => ?_) (fun c => ?_)
    · replace h := hp c h
      refine v_iconst X (pc := 41) (v := 0) dX6_barred_41 (by decide) ?_
      refine v_goto X (pc := 42) (tgt := 46) dX6_barred_42 (by decide) ?_
      replace h := oi h
      subst h
      exact v_iret X (pc := 46) F dX6_barred_46
    · replace h := hn c h
      refine v_iload_n X (pc := 28) dX6_barred_28 rfl 0 rfl ?_
      refine v_iload_n X (pc := 29) dX6_barred_29 rfl 3 rfl ?_
      refine v_ifeqB X (pc := 30) (tgt := 37) dX6_barred_30 (by decide) (fun c => ?_) (fun c => ?_)
      · replace h := hn (nbt c) h
        refine v_iconst X (pc := 37) (v := 2) dX6_barred_37 (by decide) ?_
        refine v_icmpne X (pc := 38) (tgt := 45) dX6_barred_38 (by decide) (fun c => ?_) (fun c => ?_)
        · replace h := hn c h
          refine v_iconst X (pc := 45) (v := 2) dX6_barred_45 (by decide) ?_
          replace h := oi h
          subst h
          exact v_iret X (pc := 46) F dX6_barred_46
        · replace h := hp c h
          refine v_iconst X (pc := 41) (v := 0) dX6_barred_41 (by decide) ?_
          refine v_goto X (pc := 42) (tgt := 46) dX6_barred_42 (by decide) ?_
          replace h := oi h
          subst h
          exact v_iret X (pc := 46) F dX6_barred_46
      · replace h := hp c h
        refine v_iconst X (pc := 33) (v := 1) dX6_barred_33 (by decide) ?_
        refine v_goto X (pc := 34) (tgt := 38) dX6_barred_34 (by decide) ?_
        refine v_icmpne X (pc := 38) (tgt := 45) dX6_barred_38 (by decide) (fun c => ?_) (fun c => ?_)
        · replace h := hn c h
          refine v_iconst X (pc := 45) (v := 2) dX6_barred_45 (by decide) ?_
          replace h := oi h
          subst h
          exact v_iret X (pc := 46) F dX6_barred_46
        · replace h := hp c h
          refine v_iconst X (pc := 41) (v := 0) dX6_barred_41 (by decide) ?_
          refine v_goto X (pc := 42) (tgt := 46) dX6_barred_42 (by decide) ?_
          replace h := oi h
          subst h
          exact v_iret X (pc := 46) F dX6_barred_46
  · replace h := hn c h
    refine v_iconst X (pc := 20) (v := 1) dX6_barred_20 (by decide) ?_
    refine v_goto X (pc := 21) (tgt := 46) dX6_barred_21 (by decide) ?_
    replace h := oi h
    subst h
    exact v_iret X (pc := 46) F dX6_barred_46
theorem cw_X6_barred : CwB yX6_barred cX6_barred 4 (Option.some FieldType.int) 2 := ⟨q_770, q_57, by decide, by decide, by decide +kernel⟩
def f_X6_from (μ : Blk) (x1 : Int32) (x2 : Bool) : Option (Int32) :=
  (if x2 = true then (if ib x1 2048 = true then some ((μ 1) (Int32.toNatClampNeg x1)) else none) else (if ib (x1 + 1) 2048 = true then some ((μ 1) (Int32.toNatClampNeg (x1 + 1))) else none))
set_option maxHeartbeats 4000000 in
set_option maxRecDepth 100000 in
theorem c_X6_from (l : Launch) (g : Gl) (a : Nat → Nat) (μ : Blk) (x1 : Int32) (x2 : Bool) {res : Int32} (h : f_X6_from μ x1 x2 = some res) : Ok l g yX6_from cX6_from 3 (Option.some FieldType.int) 0 0 [.ref (a 0), .int x1, .int (b2i x2)] (wM g a μ) (some (.int res)) (wM g a μ) := by
  refine Ok.of RX6 (by decide) rfl (Nat.le_of_ble_eq_true rfl) (fun x hl hg X F => ?_)
  subst hg; subst hl
  rw [f_X6_from] at h
  show V x (wM x.g a μ) [(0, .ref (a 0)), (1, .int x1), (2, .int (b2i x2))] [] 0
  refine v_iload_n X (pc := 0) dX6_from_0 rfl 2 rfl ?_
  refine v_ifeqB X (pc := 1) (tgt := 13) dX6_from_1 (by decide) (fun c => ?_) (fun c => ?_)
  · replace h := hn (nbt c) h
    refine v_aload_n X (pc := 13) dX6_from_13 rfl 0 rfl ?_
    refine v_get X (pc := 14) (v := .ref (a 1)) uw6 0 rfl rfl 0 (by decide) q_668 rfl rfl dX6_from_14 ?_
    refine v_iload_n X (pc := 17) dX6_from_17 rfl 1 rfl ?_
    refine v_iconst X (pc := 18) (v := 1) dX6_from_18 (by decide) ?_
    refine v_iadd X (pc := 19) dX6_from_19 ?_
    obtain ⟨g20, h⟩ := og h
    refine v_iald X (pc := 20) (v := ((μ 1) (Int32.toNatClampNeg (x1 + 1)))) 1 rfl (ib_in g20) rfl dX6_from_20 ?_
    replace h := oi h
    subst h
    exact v_iret X (pc := 21) F dX6_from_21
  · replace h := hp c h
    refine v_aload_n X (pc := 4) dX6_from_4 rfl 0 rfl ?_
    refine v_get X (pc := 5) (v := .ref (a 1)) uw6 0 rfl rfl 0 (by decide) q_668 rfl rfl dX6_from_5 ?_
    refine v_iload_n X (pc := 8) dX6_from_8 rfl 1 rfl ?_
    obtain ⟨g9, h⟩ := og h
    refine v_iald X (pc := 9) (v := ((μ 1) (Int32.toNatClampNeg x1))) 1 rfl (ib_in g9) rfl dX6_from_9 ?_
    refine v_goto X (pc := 10) (tgt := 21) dX6_from_10 (by decide) ?_
    replace h := oi h
    subst h
    exact v_iret X (pc := 21) F dX6_from_21
theorem cw_X6_from : CwB yX6_from cX6_from 3 (Option.some FieldType.int) 2 := ⟨q_762, q_57, by decide, by decide, by decide +kernel⟩
def f_X6_to (μ : Blk) (x1 : Int32) (x2 : Bool) : Option (Int32) :=
  (if x2 = true then (if ib (x1 + 1) 2048 = true then some ((μ 1) (Int32.toNatClampNeg (x1 + 1))) else none) else (if ib x1 2048 = true then some ((μ 1) (Int32.toNatClampNeg x1)) else none))
set_option maxHeartbeats 4000000 in
set_option maxRecDepth 100000 in
theorem c_X6_to (l : Launch) (g : Gl) (a : Nat → Nat) (μ : Blk) (x1 : Int32) (x2 : Bool) {res : Int32} (h : f_X6_to μ x1 x2 = some res) : Ok l g yX6_to cX6_to 3 (Option.some FieldType.int) 0 0 [.ref (a 0), .int x1, .int (b2i x2)] (wM g a μ) (some (.int res)) (wM g a μ) := by
  refine Ok.of RX6 (by decide) rfl (Nat.le_of_ble_eq_true rfl) (fun x hl hg X F => ?_)
  subst hg; subst hl
  rw [f_X6_to] at h
  show V x (wM x.g a μ) [(0, .ref (a 0)), (1, .int x1), (2, .int (b2i x2))] [] 0
  refine v_iload_n X (pc := 0) dX6_to_0 rfl 2 rfl ?_
  refine v_ifeqB X (pc := 1) (tgt := 15) dX6_to_1 (by decide) (fun c => ?_) (fun c => ?_)
  · replace h := hn (nbt c) h
    refine v_aload_n X (pc := 15) dX6_to_15 rfl 0 rfl ?_
    refine v_get X (pc := 16) (v := .ref (a 1)) uw6 0 rfl rfl 0 (by decide) q_668 rfl rfl dX6_to_16 ?_
    refine v_iload_n X (pc := 19) dX6_to_19 rfl 1 rfl ?_
    obtain ⟨g20, h⟩ := og h
    refine v_iald X (pc := 20) (v := ((μ 1) (Int32.toNatClampNeg x1))) 1 rfl (ib_in g20) rfl dX6_to_20 ?_
    replace h := oi h
    subst h
    exact v_iret X (pc := 21) F dX6_to_21
  · replace h := hp c h
    refine v_aload_n X (pc := 4) dX6_to_4 rfl 0 rfl ?_
    refine v_get X (pc := 5) (v := .ref (a 1)) uw6 0 rfl rfl 0 (by decide) q_668 rfl rfl dX6_to_5 ?_
    refine v_iload_n X (pc := 8) dX6_to_8 rfl 1 rfl ?_
    refine v_iconst X (pc := 9) (v := 1) dX6_to_9 (by decide) ?_
    refine v_iadd X (pc := 10) dX6_to_10 ?_
    obtain ⟨g11, h⟩ := og h
    refine v_iald X (pc := 11) (v := ((μ 1) (Int32.toNatClampNeg (x1 + 1)))) 1 rfl (ib_in g11) rfl dX6_to_11 ?_
    refine v_goto X (pc := 12) (tgt := 21) dX6_to_12 (by decide) ?_
    replace h := oi h
    subst h
    exact v_iret X (pc := 21) F dX6_to_21
theorem cw_X6_to : CwB yX6_to cX6_to 3 (Option.some FieldType.int) 2 := ⟨q_766, q_57, by decide, by decide, by decide +kernel⟩
def f_X6_why (μ : Blk) (x1 : Int32) (x2 : Int32) (x3 : Bool) (x4 : Int32) : Option (Int32) :=
  lt (f_X6_place x1 x2) fun q2 => (f_X6_from μ q2 x3).bind fun q11 => (f_X6_to μ q2 x3).bind fun q20 => (f_X6_barred μ q2 x3).bind fun q29 => (if q29 ≤ 0 then (if q11 = 0 then (if q20 = 0 then some 0 else (if ib ((x1 + 10) + q20) 2048 = true then (if ib ((x1 + 4) + q20) 2048 = true then (if (((μ 1) (Int32.toNatClampNeg ((x1 + 10) + q20))) + x4) ≤ ((μ 1) (Int32.toNatClampNeg ((x1 + 4) + q20))) then some 0 else some 4) else none) else none)) else (if ib ((x1 + 10) + q11) 2048 = true then (if x4 ≤ ((μ 1) (Int32.toNatClampNeg ((x1 + 10) + q11))) then (if q20 = 0 then some 0 else (if ib ((x1 + 10) + q20) 2048 = true then (if ib ((x1 + 4) + q20) 2048 = true then (if (((μ 1) (Int32.toNatClampNeg ((x1 + 10) + q20))) + x4) ≤ ((μ 1) (Int32.toNatClampNeg ((x1 + 4) + q20))) then some 0 else some 4) else none) else none)) else some 3) else none)) else some q29)
set_option maxHeartbeats 4000000 in
set_option maxRecDepth 100000 in
theorem c_X6_why (l : Launch) (g : Gl) (a : Nat → Nat) (μ : Blk) (x1 : Int32) (x2 : Int32) (x3 : Bool) (x4 : Int32) {res : Int32} (h : f_X6_why μ x1 x2 x3 x4 = some res) : Ok l g yX6_why cX6_why 9 (Option.some FieldType.int) 1 23 [.ref (a 0), .int x1, .int x2, .int (b2i x3), .int x4] (wM g a μ) (some (.int res)) (wM g a μ) := by
  refine Ok.of RX6 (by decide) rfl (Nat.le_of_ble_eq_true rfl) (fun x hl hg X F => ?_)
  subst hg; subst hl
  rw [f_X6_why] at h
  show V x (wM x.g a μ) [(0, .ref (a 0)), (1, .int x1), (2, .int x2), (3, .int (b2i x3)), (4, .int x4)] [] 0
  refine v_iload_n X (pc := 0) dX6_why_0 rfl 1 rfl ?_
  refine v_iload_n X (pc := 1) dX6_why_1 rfl 2 rfl ?_
  obtain ⟨q2, e2, h⟩ := lts h
  refine v_callS X (pc := 2) (st1 := [.int q2]) (w' := (wM x.g a μ)) [.int x1, .int x2] [] (c_X6_place x.l x.g  x1 x2 e2) rfl rfl cw_X6_place q_721 q_722 ⟨by decide, by decide⟩ Fr.nil rfl (Nat.le_of_ble_eq_true rfl) dX6_why_2 ?_
  refine v_istore X (pc := 5) (L2 := [(5, .int q2), (0, .ref (a 0)), (1, .int x1), (2, .int x2), (3, .int (b2i x3)), (4, .int x4)]) dX6_why_5 (by decide) rfl ?_
  refine v_aload_n X (pc := 7) dX6_why_7 rfl 1 rfl ?_
  refine v_iload X (pc := 8) dX6_why_8 0 rfl ?_
  refine v_iload_n X (pc := 10) dX6_why_10 rfl 4 rfl ?_
  obtain ⟨q11, e11, h⟩ := ob h
  refine v_callV X (pc := 11) (st1 := [.int q11]) (w' := (wM x.g a μ)) [.int q2, .int (b2i x3)] [] (c_X6_from x.l x.g a μ q2 x3 e11) rfl rfl cw_X6_from q_759 q_761 q_25 ⟨by decide, by decide⟩ 0 6 rfl rfl rfl (Fr.all rfl) rfl (Nat.le_of_ble_eq_true rfl) dX6_why_11 ?_
  refine v_istore X (pc := 14) (L2 := [(6, .int q11), (5, .int q2), (0, .ref (a 0)), (1, .int x1), (2, .int x2), (3, .int (b2i x3)), (4, .int x4)]) dX6_why_14 (by decide) rfl ?_
  refine v_aload_n X (pc := 16) dX6_why_16 rfl 2 rfl ?_
  refine v_iload X (pc := 17) dX6_why_17 1 rfl ?_
  refine v_iload_n X (pc := 19) dX6_why_19 rfl 5 rfl ?_
  obtain ⟨q20, e20, h⟩ := ob h
  refine v_callV X (pc := 20) (st1 := [.int q20]) (w' := (wM x.g a μ)) [.int q2, .int (b2i x3)] [] (c_X6_to x.l x.g a μ q2 x3 e20) rfl rfl cw_X6_to q_763 q_765 q_26 ⟨by decide, by decide⟩ 0 6 rfl rfl rfl (Fr.all rfl) rfl (Nat.le_of_ble_eq_true rfl) dX6_why_20 ?_
  refine v_istore X (pc := 23) (L2 := [(7, .int q20), (6, .int q11), (5, .int q2), (0, .ref (a 0)), (1, .int x1), (2, .int x2), (3, .int (b2i x3)), (4, .int x4)]) dX6_why_23 (by decide) rfl ?_
  refine v_aload_n X (pc := 25) dX6_why_25 rfl 3 rfl ?_
  refine v_iload X (pc := 26) dX6_why_26 2 rfl ?_
  refine v_iload_n X (pc := 28) dX6_why_28 rfl 6 rfl ?_
  obtain ⟨q29, e29, h⟩ := ob h
  refine v_callV X (pc := 29) (st1 := [.int q29]) (w' := (wM x.g a μ)) [.int q2, .int (b2i x3)] [] (c_X6_barred x.l x.g a μ q2 x3 e29) rfl rfl cw_X6_barred q_767 q_769 q_27 ⟨by decide, by decide⟩ 0 6 rfl rfl rfl (Fr.all rfl) rfl (Nat.le_of_ble_eq_true rfl) dX6_why_29 ?_
  refine v_istore X (pc := 32) (L2 := [(8, .int q29), (7, .int q20), (6, .int q11), (5, .int q2), (0, .ref (a 0)), (1, .int x1), (2, .int x2), (3, .int (b2i x3)), (4, .int x4)]) dX6_why_32 (by decide) rfl ?_
  refine v_iload X (pc := 34) dX6_why_34 0 rfl ?_
  refine v_ifle X (pc := 36) (tgt := 42) dX6_why_36 (by decide) (fun c => ?_) (fun c => ?_)
  · replace h := hp c h
    refine v_iload X (pc := 42) dX6_why_42 2 rfl ?_
    refine v_ifeq X (pc := 44) (tgt := 68) dX6_why_44 (by decide) (fun c => ?_) (fun c => ?_)
    · replace h := hp c h
      refine v_iload X (pc := 68) dX6_why_68 1 rfl ?_
      refine v_ifeq X (pc := 70) (tgt := 106) dX6_why_70 (by decide) (fun c => ?_) (fun c => ?_)
      · replace h := hp c h
        refine v_iconst X (pc := 106) (v := 0) dX6_why_106 (by decide) ?_
        replace h := oi h
        subst h
        exact v_iret X (pc := 107) F dX6_why_107
      · replace h := hn c h
        refine v_aload_n X (pc := 73) dX6_why_73 rfl 4 rfl ?_
        refine v_get X (pc := 74) (v := .ref (a 1)) uw6 0 rfl rfl 0 (by decide) q_668 rfl rfl dX6_why_74 ?_
        refine v_iload_n X (pc := 77) dX6_why_77 rfl 5 rfl ?_
        refine v_bipush X (pc := 78) (v := 10) dX6_why_78 (by decide) ?_
        refine v_iadd X (pc := 80) dX6_why_80 ?_
        refine v_iload X (pc := 81) dX6_why_81 1 rfl ?_
        refine v_iadd X (pc := 83) dX6_why_83 ?_
        obtain ⟨g84, h⟩ := og h
        refine v_iald X (pc := 84) (v := ((μ 1) (Int32.toNatClampNeg ((x1 + 10) + q20)))) 1 rfl (ib_in g84) rfl dX6_why_84 ?_
        refine v_iload X (pc := 85) dX6_why_85 8 rfl ?_
        refine v_iadd X (pc := 87) dX6_why_87 ?_
        refine v_aload_n X (pc := 88) dX6_why_88 rfl 4 rfl ?_
        refine v_get X (pc := 89) (v := .ref (a 1)) uw6 0 rfl rfl 0 (by decide) q_668 rfl rfl dX6_why_89 ?_
        refine v_iload_n X (pc := 92) dX6_why_92 rfl 5 rfl ?_
        refine v_iconst X (pc := 93) (v := 4) dX6_why_93 (by decide) ?_
        refine v_iadd X (pc := 94) dX6_why_94 ?_
        refine v_iload X (pc := 95) dX6_why_95 1 rfl ?_
        refine v_iadd X (pc := 97) dX6_why_97 ?_
        obtain ⟨g98, h⟩ := og h
        refine v_iald X (pc := 98) (v := ((μ 1) (Int32.toNatClampNeg ((x1 + 4) + q20)))) 1 rfl (ib_in g98) rfl dX6_why_98 ?_
        refine v_icmple X (pc := 99) (tgt := 106) dX6_why_99 (by decide) (fun c => ?_) (fun c => ?_)
        · replace h := hp c h
          refine v_iconst X (pc := 106) (v := 0) dX6_why_106 (by decide) ?_
          replace h := oi h
          subst h
          exact v_iret X (pc := 107) F dX6_why_107
        · replace h := hn c h
          refine v_iconst X (pc := 102) (v := 4) dX6_why_102 (by decide) ?_
          refine v_goto X (pc := 103) (tgt := 107) dX6_why_103 (by decide) ?_
          replace h := oi h
          subst h
          exact v_iret X (pc := 107) F dX6_why_107
    · replace h := hn c h
      refine v_aload_n X (pc := 47) dX6_why_47 rfl 4 rfl ?_
      refine v_get X (pc := 48) (v := .ref (a 1)) uw6 0 rfl rfl 0 (by decide) q_668 rfl rfl dX6_why_48 ?_
      refine v_iload_n X (pc := 51) dX6_why_51 rfl 5 rfl ?_
      refine v_bipush X (pc := 52) (v := 10) dX6_why_52 (by decide) ?_
      refine v_iadd X (pc := 54) dX6_why_54 ?_
      refine v_iload X (pc := 55) dX6_why_55 2 rfl ?_
      refine v_iadd X (pc := 57) dX6_why_57 ?_
      obtain ⟨g58, h⟩ := og h
      refine v_iald X (pc := 58) (v := ((μ 1) (Int32.toNatClampNeg ((x1 + 10) + q11)))) 1 rfl (ib_in g58) rfl dX6_why_58 ?_
      refine v_iload X (pc := 59) dX6_why_59 8 rfl ?_
      refine v_icmpge X (pc := 61) (tgt := 68) dX6_why_61 (by decide) (fun c => ?_) (fun c => ?_)
      · replace h := hp c h
        refine v_iload X (pc := 68) dX6_why_68 1 rfl ?_
        refine v_ifeq X (pc := 70) (tgt := 106) dX6_why_70 (by decide) (fun c => ?_) (fun c => ?_)
        · replace h := hp c h
          refine v_iconst X (pc := 106) (v := 0) dX6_why_106 (by decide) ?_
          replace h := oi h
          subst h
          exact v_iret X (pc := 107) F dX6_why_107
        · replace h := hn c h
          refine v_aload_n X (pc := 73) dX6_why_73 rfl 4 rfl ?_
          refine v_get X (pc := 74) (v := .ref (a 1)) uw6 0 rfl rfl 0 (by decide) q_668 rfl rfl dX6_why_74 ?_
          refine v_iload_n X (pc := 77) dX6_why_77 rfl 5 rfl ?_
          refine v_bipush X (pc := 78) (v := 10) dX6_why_78 (by decide) ?_
          refine v_iadd X (pc := 80) dX6_why_80 ?_
          refine v_iload X (pc := 81) dX6_why_81 1 rfl ?_
          refine v_iadd X (pc := 83) dX6_why_83 ?_
          obtain ⟨g84, h⟩ := og h
          refine v_iald X (pc := 84) (v := ((μ 1) (Int32.toNatClampNeg ((x1 + 10) + q20)))) 1 rfl (ib_in g84) rfl dX6_why_84 ?_
          refine v_iload X (pc := 85) dX6_why_85 8 rfl ?_
          refine v_iadd X (pc := 87) dX6_why_87 ?_
          refine v_aload_n X (pc := 88) dX6_why_88 rfl 4 rfl ?_
          refine v_get X (pc := 89) (v := .ref (a 1)) uw6 0 rfl rfl 0 (by decide) q_668 rfl rfl dX6_why_89 ?_
          refine v_iload_n X (pc := 92) dX6_why_92 rfl 5 rfl ?_
          refine v_iconst X (pc := 93) (v := 4) dX6_why_93 (by decide) ?_
          refine v_iadd X (pc := 94) dX6_why_94 ?_
          refine v_iload X (pc := 95) dX6_why_95 1 rfl ?_
          refine v_iadd X (pc := 97) dX6_why_97 ?_
          obtain ⟨g98, h⟩ := og h
          refine v_iald X (pc := 98) (v := ((μ 1) (Int32.toNatClampNeg ((x1 + 4) + q20)))) 1 rfl (ib_in g98) rfl dX6_why_98 ?_
          refine v_icmple X (pc := 99) (tgt := 106) dX6_why_99 (by decide) (fun c => ?_) (fun c => ?_)
          · replace h := hp c h
            refine v_iconst X (pc := 106) (v := 0) dX6_why_106 (by decide) ?_
            replace h := oi h
            subst h
            exact v_iret X (pc := 107) F dX6_why_107
          · replace h := hn c h
            refine v_iconst X (pc := 102) (v := 4) dX6_why_102 (by decide) ?_
            refine v_goto X (pc := 103) (tgt := 107) dX6_why_103 (by decide) ?_
            replace h := oi h
            subst h
            exact v_iret X (pc := 107) F dX6_why_107
      · replace h := hn c h
        refine v_iconst X (pc := 64) (v := 3) dX6_why_64 (by decide) ?_
        refine v_goto X (pc := 65) (tgt := 107) dX6_why_65 (by decide) ?_
        replace h := oi h
        subst h
        exact v_iret X (pc := 107) F dX6_why_107
  · replace h := hn c h
    refine v_iload X (pc := 39) dX6_why_39 0 rfl ?_
    replace h := oi h
    subst h
    exact v_iret X (pc := 41) F dX6_why_41
theorem cw_X6_why : CwB yX6_why cX6_why 9 (Option.some FieldType.int) 4 := ⟨q_758, q_57, by decide, by decide, by decide +kernel⟩
def f_X6_counts (μ : Blk) (x1 : Int32) (x2 : Int32) (x3 : Int32) : Option (Blk) :=
  (if ib (((x1 + 4) + (4 * x2)) + 1) 2048 = true then (if ((μ 1) (Int32.toNatClampNeg (((x1 + 4) + (4 * x2)) + 1))) = 0 then (if ib (((x1 + 4) + (4 * x2)) + 2) 2048 = true then (if ib (((x1 + 4) + (4 * x2)) + 2) 2048 = true then lt (upR μ 1 (upd (μ 1) (Int32.toNatClampNeg (((x1 + 4) + (4 * x2)) + 2)) (((μ 1) (Int32.toNatClampNeg (((x1 + 4) + (4 * x2)) + 2))) + x3))) fun m70 => (if ib (((x1 + 4) + (4 * x2)) + 3) 2048 = true then (if ib (((x1 + 4) + (4 * x2)) + 3) 2048 = true then lt (upR m70 1 (upd (m70 1) (Int32.toNatClampNeg (((x1 + 4) + (4 * x2)) + 3)) (((m70 1) (Int32.toNatClampNeg (((x1 + 4) + (4 * x2)) + 3))) + 0))) fun m84 => (if ib ((x1 + 4) + (4 * x2)) 2048 = true then (if ib ((x1 + 4) + (4 * x2)) 2048 = true then lt (upR m84 1 (upd (m84 1) (Int32.toNatClampNeg ((x1 + 4) + (4 * x2))) (((m84 1) (Int32.toNatClampNeg ((x1 + 4) + (4 * x2)))) + (x3 - 0)))) fun m98 => some m98 else none) else none) else none) else none) else none) else none) else (if ib (((x1 + 4) + (4 * x2)) + 2) 2048 = true then (if ¬ ((μ 1) (Int32.toNatClampNeg (((x1 + 4) + (4 * x2)) + 1))) = 0 then (if ib (((x1 + 4) + (4 * x2)) + 2) 2048 = true then (if ¬ ((μ 1) (Int32.toNatClampNeg (((x1 + 4) + (4 * x2)) + 1))) = 0 then (if ib (((x1 + 4) + (4 * x2)) + 2) 2048 = true then (if ib (((x1 + 4) + (4 * x2)) + 2) 2048 = true then lt (upR μ 1 (upd (μ 1) (Int32.toNatClampNeg (((x1 + 4) + (4 * x2)) + 2)) (((μ 1) (Int32.toNatClampNeg (((x1 + 4) + (4 * x2)) + 2))) + x3))) fun m70 => (if ib (((x1 + 4) + (4 * x2)) + 3) 2048 = true then (if ib (((x1 + 4) + (4 * x2)) + 3) 2048 = true then lt (upR m70 1 (upd (m70 1) (Int32.toNatClampNeg (((x1 + 4) + (4 * x2)) + 3)) (((m70 1) (Int32.toNatClampNeg (((x1 + 4) + (4 * x2)) + 3))) + (((((μ 1) (Int32.toNatClampNeg (((x1 + 4) + (4 * x2)) + 2))) + x3) / ((μ 1) (Int32.toNatClampNeg (((x1 + 4) + (4 * x2)) + 1)))) - (((μ 1) (Int32.toNatClampNeg (((x1 + 4) + (4 * x2)) + 2))) / ((μ 1) (Int32.toNatClampNeg (((x1 + 4) + (4 * x2)) + 1)))))))) fun m84 => (if ib ((x1 + 4) + (4 * x2)) 2048 = true then (if ib ((x1 + 4) + (4 * x2)) 2048 = true then lt (upR m84 1 (upd (m84 1) (Int32.toNatClampNeg ((x1 + 4) + (4 * x2))) (((m84 1) (Int32.toNatClampNeg ((x1 + 4) + (4 * x2)))) + (x3 - (((((μ 1) (Int32.toNatClampNeg (((x1 + 4) + (4 * x2)) + 2))) + x3) / ((μ 1) (Int32.toNatClampNeg (((x1 + 4) + (4 * x2)) + 1)))) - (((μ 1) (Int32.toNatClampNeg (((x1 + 4) + (4 * x2)) + 2))) / ((μ 1) (Int32.toNatClampNeg (((x1 + 4) + (4 * x2)) + 1))))))))) fun m98 => some m98 else none) else none) else none) else none) else none) else none) else none) else none) else none) else none)) else none)
set_option maxHeartbeats 4000000 in
set_option maxRecDepth 100000 in
theorem c_X6_counts (l : Launch) (g : Gl) (a : Nat → Nat) (μ : Blk) (x1 : Int32) (x2 : Int32) (x3 : Int32) {res : Blk} (h : f_X6_counts μ x1 x2 x3 = some res) : Ok l g yX6_counts cX6_counts 7 (Option.none : Option FieldType) 0 0 [.ref (a 0), .int x1, .int x2, .int x3] (wM g a μ) none (wM g a res) := by
  refine Ok.of RX6 (by decide) rfl (Nat.le_of_ble_eq_true rfl) (fun x hl hg X F => ?_)
  subst hg; subst hl
  rw [f_X6_counts] at h
  show V x (wM x.g a μ) [(0, .ref (a 0)), (1, .int x1), (2, .int x2), (3, .int x3)] [] 0
  refine v_iload_n X (pc := 0) dX6_counts_0 rfl 1 rfl ?_
  refine v_iconst X (pc := 1) (v := 4) dX6_counts_1 (by decide) ?_
  refine v_iadd X (pc := 2) dX6_counts_2 ?_
  refine v_iconst X (pc := 3) (v := 4) dX6_counts_3 (by decide) ?_
  refine v_iload_n X (pc := 4) dX6_counts_4 rfl 2 rfl ?_
  refine v_imul X (pc := 5) dX6_counts_5 ?_
  refine v_iadd X (pc := 6) dX6_counts_6 ?_
  refine v_istore X (pc := 7) (L2 := [(4, .int ((x1 + 4) + (4 * x2))), (0, .ref (a 0)), (1, .int x1), (2, .int x2), (3, .int x3)]) dX6_counts_7 (by decide) rfl ?_
  refine v_aload_n X (pc := 9) dX6_counts_9 rfl 1 rfl ?_
  refine v_get X (pc := 10) (v := .ref (a 1)) uw6 0 rfl rfl 0 (by decide) q_668 rfl rfl dX6_counts_10 ?_
  refine v_iload X (pc := 13) dX6_counts_13 0 rfl ?_
  refine v_iconst X (pc := 15) (v := 1) dX6_counts_15 (by decide) ?_
  refine v_iadd X (pc := 16) dX6_counts_16 ?_
  obtain ⟨g17, h⟩ := og h
  refine v_iald X (pc := 17) (v := ((μ 1) (Int32.toNatClampNeg (((x1 + 4) + (4 * x2)) + 1)))) 1 rfl (ib_in g17) rfl dX6_counts_17 ?_
  refine v_istore X (pc := 18) (L2 := [(5, .int ((μ 1) (Int32.toNatClampNeg (((x1 + 4) + (4 * x2)) + 1)))), (4, .int ((x1 + 4) + (4 * x2))), (0, .ref (a 0)), (1, .int x1), (2, .int x2), (3, .int x3)]) dX6_counts_18 (by decide) rfl ?_
  refine v_iload X (pc := 20) dX6_counts_20 0 rfl ?_
  refine v_ifne X (pc := 22) (tgt := 29) dX6_counts_22 (by decide) (fun c => ?_) (fun c => ?_)
  · replace h := hn c h
    refine v_aload_n X (pc := 29) dX6_counts_29 rfl 2 rfl ?_
    refine v_get X (pc := 30) (v := .ref (a 1)) uw6 0 rfl rfl 0 (by decide) q_668 rfl rfl dX6_counts_30 ?_
    refine v_iload X (pc := 33) dX6_counts_33 1 rfl ?_
    refine v_iconst X (pc := 35) (v := 2) dX6_counts_35 (by decide) ?_
    refine v_iadd X (pc := 36) dX6_counts_36 ?_
    obtain ⟨g37, h⟩ := og h
    refine v_iald X (pc := 37) (v := ((μ 1) (Int32.toNatClampNeg (((x1 + 4) + (4 * x2)) + 2)))) 1 rfl (ib_in g37) rfl dX6_counts_37 ?_
    refine v_iload_n X (pc := 38) dX6_counts_38 rfl 5 rfl ?_
    refine v_iadd X (pc := 39) dX6_counts_39 ?_
    refine v_iload X (pc := 40) dX6_counts_40 0 rfl ?_
    obtain ⟨g42, h⟩ := og h
    refine v_idiv X (pc := 42) dX6_counts_42 g42 ?_
    refine v_aload_n X (pc := 43) dX6_counts_43 rfl 2 rfl ?_
    refine v_get X (pc := 44) (v := .ref (a 1)) uw6 0 rfl rfl 0 (by decide) q_668 rfl rfl dX6_counts_44 ?_
    refine v_iload X (pc := 47) dX6_counts_47 1 rfl ?_
    refine v_iconst X (pc := 49) (v := 2) dX6_counts_49 (by decide) ?_
    refine v_iadd X (pc := 50) dX6_counts_50 ?_
    obtain ⟨g51, h⟩ := og h
    refine v_iald X (pc := 51) (v := ((μ 1) (Int32.toNatClampNeg (((x1 + 4) + (4 * x2)) + 2)))) 1 rfl (ib_in g51) rfl dX6_counts_51 ?_
    refine v_iload X (pc := 52) dX6_counts_52 0 rfl ?_
    obtain ⟨g54, h⟩ := og h
    refine v_idiv X (pc := 54) dX6_counts_54 g54 ?_
    refine v_isub X (pc := 55) dX6_counts_55 ?_
    refine v_istore X (pc := 56) (L2 := [(6, .int (((((μ 1) (Int32.toNatClampNeg (((x1 + 4) + (4 * x2)) + 2))) + x3) / ((μ 1) (Int32.toNatClampNeg (((x1 + 4) + (4 * x2)) + 1)))) - (((μ 1) (Int32.toNatClampNeg (((x1 + 4) + (4 * x2)) + 2))) / ((μ 1) (Int32.toNatClampNeg (((x1 + 4) + (4 * x2)) + 1)))))), (5, .int ((μ 1) (Int32.toNatClampNeg (((x1 + 4) + (4 * x2)) + 1)))), (4, .int ((x1 + 4) + (4 * x2))), (0, .ref (a 0)), (1, .int x1), (2, .int x2), (3, .int x3)]) dX6_counts_56 (by decide) rfl ?_
    refine v_aload_n X (pc := 58) dX6_counts_58 rfl 3 rfl ?_
    refine v_get X (pc := 59) (v := .ref (a 1)) uw6 0 rfl rfl 0 (by decide) q_668 rfl rfl dX6_counts_59 ?_
    refine v_iload X (pc := 62) dX6_counts_62 2 rfl ?_
    refine v_iconst X (pc := 64) (v := 2) dX6_counts_64 (by decide) ?_
    refine v_iadd X (pc := 65) dX6_counts_65 ?_
    refine v_dup2 X (pc := 66) dX6_counts_66 rfl rfl ?_
    obtain ⟨g67, h⟩ := og h
    refine v_iald X (pc := 67) (v := ((μ 1) (Int32.toNatClampNeg (((x1 + 4) + (4 * x2)) + 2)))) 1 rfl (ib_in g67) rfl dX6_counts_67 ?_
    refine v_iload_n X (pc := 68) dX6_counts_68 rfl 6 rfl ?_
    refine v_iadd X (pc := 69) dX6_counts_69 ?_
    obtain ⟨g70, h⟩ := og h
    obtain ⟨m70, em70, h⟩ := lts h
    refine v_iast X (pc := 70) (w' := (wM x.g a m70)) 1 rfl (ib_in g70) (by rw [← em70]; rfl) dX6_counts_70 ?_
    refine v_aload_n X (pc := 71) dX6_counts_71 rfl 3 rfl ?_
    refine v_get X (pc := 72) (v := .ref (a 1)) uw6 0 rfl rfl 0 (by decide) q_668 rfl rfl dX6_counts_72 ?_
    refine v_iload X (pc := 75) dX6_counts_75 2 rfl ?_
    refine v_iconst X (pc := 77) (v := 3) dX6_counts_77 (by decide) ?_
    refine v_iadd X (pc := 78) dX6_counts_78 ?_
    refine v_dup2 X (pc := 79) dX6_counts_79 rfl rfl ?_
    obtain ⟨g80, h⟩ := og h
    refine v_iald X (pc := 80) (v := ((m70 1) (Int32.toNatClampNeg (((x1 + 4) + (4 * x2)) + 3)))) 1 rfl (ib_in g80) rfl dX6_counts_80 ?_
    refine v_iload X (pc := 81) dX6_counts_81 0 rfl ?_
    refine v_iadd X (pc := 83) dX6_counts_83 ?_
    obtain ⟨g84, h⟩ := og h
    obtain ⟨m84, em84, h⟩ := lts h
    refine v_iast X (pc := 84) (w' := (wM x.g a m84)) 1 rfl (ib_in g84) (by rw [← em84]; rfl) dX6_counts_84 ?_
    refine v_aload_n X (pc := 85) dX6_counts_85 rfl 3 rfl ?_
    refine v_get X (pc := 86) (v := .ref (a 1)) uw6 0 rfl rfl 0 (by decide) q_668 rfl rfl dX6_counts_86 ?_
    refine v_iload X (pc := 89) dX6_counts_89 2 rfl ?_
    refine v_dup2 X (pc := 91) dX6_counts_91 rfl rfl ?_
    obtain ⟨g92, h⟩ := og h
    refine v_iald X (pc := 92) (v := ((m84 1) (Int32.toNatClampNeg ((x1 + 4) + (4 * x2))))) 1 rfl (ib_in g92) rfl dX6_counts_92 ?_
    refine v_iload_n X (pc := 93) dX6_counts_93 rfl 6 rfl ?_
    refine v_iload X (pc := 94) dX6_counts_94 0 rfl ?_
    refine v_isub X (pc := 96) dX6_counts_96 ?_
    refine v_iadd X (pc := 97) dX6_counts_97 ?_
    obtain ⟨g98, h⟩ := og h
    obtain ⟨m98, em98, h⟩ := lts h
    refine v_iast X (pc := 98) (w' := (wM x.g a m98)) 1 rfl (ib_in g98) (by rw [← em98]; rfl) dX6_counts_98 ?_
    replace h := oi h
    subst h
    exact v_vret X (pc := 99) F dX6_counts_99
  · replace h := hp c h
    refine v_iconst X (pc := 25) (v := 0) dX6_counts_25 (by decide) ?_
    refine v_goto X (pc := 26) (tgt := 56) dX6_counts_26 (by decide) ?_
    refine v_istore X (pc := 56) (L2 := [(6, .int 0), (5, .int ((μ 1) (Int32.toNatClampNeg (((x1 + 4) + (4 * x2)) + 1)))), (4, .int ((x1 + 4) + (4 * x2))), (0, .ref (a 0)), (1, .int x1), (2, .int x2), (3, .int x3)]) dX6_counts_56 (by decide) rfl ?_
    refine v_aload_n X (pc := 58) dX6_counts_58 rfl 3 rfl ?_
    refine v_get X (pc := 59) (v := .ref (a 1)) uw6 0 rfl rfl 0 (by decide) q_668 rfl rfl dX6_counts_59 ?_
    refine v_iload X (pc := 62) dX6_counts_62 2 rfl ?_
    refine v_iconst X (pc := 64) (v := 2) dX6_counts_64 (by decide) ?_
    refine v_iadd X (pc := 65) dX6_counts_65 ?_
    refine v_dup2 X (pc := 66) dX6_counts_66 rfl rfl ?_
    obtain ⟨g67, h⟩ := og h
    refine v_iald X (pc := 67) (v := ((μ 1) (Int32.toNatClampNeg (((x1 + 4) + (4 * x2)) + 2)))) 1 rfl (ib_in g67) rfl dX6_counts_67 ?_
    refine v_iload_n X (pc := 68) dX6_counts_68 rfl 6 rfl ?_
    refine v_iadd X (pc := 69) dX6_counts_69 ?_
    obtain ⟨g70, h⟩ := og h
    obtain ⟨m70, em70, h⟩ := lts h
    refine v_iast X (pc := 70) (w' := (wM x.g a m70)) 1 rfl (ib_in g70) (by rw [← em70]; rfl) dX6_counts_70 ?_
    refine v_aload_n X (pc := 71) dX6_counts_71 rfl 3 rfl ?_
    refine v_get X (pc := 72) (v := .ref (a 1)) uw6 0 rfl rfl 0 (by decide) q_668 rfl rfl dX6_counts_72 ?_
    refine v_iload X (pc := 75) dX6_counts_75 2 rfl ?_
    refine v_iconst X (pc := 77) (v := 3) dX6_counts_77 (by decide) ?_
    refine v_iadd X (pc := 78) dX6_counts_78 ?_
    refine v_dup2 X (pc := 79) dX6_counts_79 rfl rfl ?_
    obtain ⟨g80, h⟩ := og h
    refine v_iald X (pc := 80) (v := ((m70 1) (Int32.toNatClampNeg (((x1 + 4) + (4 * x2)) + 3)))) 1 rfl (ib_in g80) rfl dX6_counts_80 ?_
    refine v_iload X (pc := 81) dX6_counts_81 0 rfl ?_
    refine v_iadd X (pc := 83) dX6_counts_83 ?_
    obtain ⟨g84, h⟩ := og h
    obtain ⟨m84, em84, h⟩ := lts h
    refine v_iast X (pc := 84) (w' := (wM x.g a m84)) 1 rfl (ib_in g84) (by rw [← em84]; rfl) dX6_counts_84 ?_
    refine v_aload_n X (pc := 85) dX6_counts_85 rfl 3 rfl ?_
    refine v_get X (pc := 86) (v := .ref (a 1)) uw6 0 rfl rfl 0 (by decide) q_668 rfl rfl dX6_counts_86 ?_
    refine v_iload X (pc := 89) dX6_counts_89 2 rfl ?_
    refine v_dup2 X (pc := 91) dX6_counts_91 rfl rfl ?_
    obtain ⟨g92, h⟩ := og h
    refine v_iald X (pc := 92) (v := ((m84 1) (Int32.toNatClampNeg ((x1 + 4) + (4 * x2))))) 1 rfl (ib_in g92) rfl dX6_counts_92 ?_
    refine v_iload_n X (pc := 93) dX6_counts_93 rfl 6 rfl ?_
    refine v_iload X (pc := 94) dX6_counts_94 0 rfl ?_
    refine v_isub X (pc := 96) dX6_counts_96 ?_
    refine v_iadd X (pc := 97) dX6_counts_97 ?_
    obtain ⟨g98, h⟩ := og h
    obtain ⟨m98, em98, h⟩ := lts h
    refine v_iast X (pc := 98) (w' := (wM x.g a m98)) 1 rfl (ib_in g98) (by rw [← em98]; rfl) dX6_counts_98 ?_
    replace h := oi h
    subst h
    exact v_vret X (pc := 99) F dX6_counts_99
theorem cw_X6_counts : CwB yX6_counts cX6_counts 7 (Option.none : Option FieldType) 3 := ⟨q_778, q_57, by decide, by decide, by decide +kernel⟩
def f_X6_passes (μ : Blk) (x1 : Int32) (x2 : Int32) (x3 : Bool) (x4 : Int32) : Option (Blk) :=
  lt (f_X6_place x1 x2) fun q2 => (f_X6_from μ q2 x3).bind fun q11 => (f_X6_to μ q2 x3).bind fun q20 => (if ib ((x1 + 10) + q11) 2048 = true then (if q11 = 0 then (if ib ((x1 + 10) + q11) 2048 = true then lt (upR μ 1 (upd (μ 1) (Int32.toNatClampNeg ((x1 + 10) + q11)) (((μ 1) (Int32.toNatClampNeg ((x1 + 10) + q11))) - 0))) fun m50 => (if ib ((x1 + 10) + q20) 2048 = true then (if q20 = 0 then (if ib ((x1 + 10) + q20) 2048 = true then lt (upR m50 1 (upd (m50 1) (Int32.toNatClampNeg ((x1 + 10) + q20)) (((m50 1) (Int32.toNatClampNeg ((x1 + 10) + q20))) + 0))) fun m76 => (if x3 = true then (f_X6_counts m76 q2 0 x4).bind fun q91 => (if x3 = true then (f_X6_counts q91 q2 3 x4).bind fun q108 => some q108 else (f_X6_counts q91 q2 1 x4).bind fun q108 => some q108) else (f_X6_counts m76 q2 2 x4).bind fun q91 => (if x3 = true then (f_X6_counts q91 q2 3 x4).bind fun q108 => some q108 else (f_X6_counts q91 q2 1 x4).bind fun q108 => some q108)) else none) else (if ib ((x1 + 10) + q20) 2048 = true then lt (upR m50 1 (upd (m50 1) (Int32.toNatClampNeg ((x1 + 10) + q20)) (((m50 1) (Int32.toNatClampNeg ((x1 + 10) + q20))) + x4))) fun m76 => (if x3 = true then (f_X6_counts m76 q2 0 x4).bind fun q91 => (if x3 = true then (f_X6_counts q91 q2 3 x4).bind fun q108 => some q108 else (f_X6_counts q91 q2 1 x4).bind fun q108 => some q108) else (f_X6_counts m76 q2 2 x4).bind fun q91 => (if x3 = true then (f_X6_counts q91 q2 3 x4).bind fun q108 => some q108 else (f_X6_counts q91 q2 1 x4).bind fun q108 => some q108)) else none)) else none) else none) else (if ib ((x1 + 10) + q11) 2048 = true then lt (upR μ 1 (upd (μ 1) (Int32.toNatClampNeg ((x1 + 10) + q11)) (((μ 1) (Int32.toNatClampNeg ((x1 + 10) + q11))) - x4))) fun m50 => (if ib ((x1 + 10) + q20) 2048 = true then (if q20 = 0 then (if ib ((x1 + 10) + q20) 2048 = true then lt (upR m50 1 (upd (m50 1) (Int32.toNatClampNeg ((x1 + 10) + q20)) (((m50 1) (Int32.toNatClampNeg ((x1 + 10) + q20))) + 0))) fun m76 => (if x3 = true then (f_X6_counts m76 q2 0 x4).bind fun q91 => (if x3 = true then (f_X6_counts q91 q2 3 x4).bind fun q108 => some q108 else (f_X6_counts q91 q2 1 x4).bind fun q108 => some q108) else (f_X6_counts m76 q2 2 x4).bind fun q91 => (if x3 = true then (f_X6_counts q91 q2 3 x4).bind fun q108 => some q108 else (f_X6_counts q91 q2 1 x4).bind fun q108 => some q108)) else none) else (if ib ((x1 + 10) + q20) 2048 = true then lt (upR m50 1 (upd (m50 1) (Int32.toNatClampNeg ((x1 + 10) + q20)) (((m50 1) (Int32.toNatClampNeg ((x1 + 10) + q20))) + x4))) fun m76 => (if x3 = true then (f_X6_counts m76 q2 0 x4).bind fun q91 => (if x3 = true then (f_X6_counts q91 q2 3 x4).bind fun q108 => some q108 else (f_X6_counts q91 q2 1 x4).bind fun q108 => some q108) else (f_X6_counts m76 q2 2 x4).bind fun q91 => (if x3 = true then (f_X6_counts q91 q2 3 x4).bind fun q108 => some q108 else (f_X6_counts q91 q2 1 x4).bind fun q108 => some q108)) else none)) else none) else none)) else none)
set_option maxHeartbeats 4000000 in
set_option maxRecDepth 100000 in
theorem c_X6_passes (l : Launch) (g : Gl) (a : Nat → Nat) (μ : Blk) (x1 : Int32) (x2 : Int32) (x3 : Bool) (x4 : Int32) {res : Blk} (h : f_X6_passes μ x1 x2 x3 x4 = some res) : Ok l g yX6_passes cX6_passes 8 (Option.none : Option FieldType) 1 26 [.ref (a 0), .int x1, .int x2, .int (b2i x3), .int x4] (wM g a μ) none (wM g a res) := by
  refine Ok.of RX6 (by decide) rfl (Nat.le_of_ble_eq_true rfl) (fun x hl hg X F => ?_)
  subst hg; subst hl
  rw [f_X6_passes] at h
  show V x (wM x.g a μ) [(0, .ref (a 0)), (1, .int x1), (2, .int x2), (3, .int (b2i x3)), (4, .int x4)] [] 0
  refine v_iload_n X (pc := 0) dX6_passes_0 rfl 1 rfl ?_
  refine v_iload_n X (pc := 1) dX6_passes_1 rfl 2 rfl ?_
  obtain ⟨q2, e2, h⟩ := lts h
  refine v_callS X (pc := 2) (st1 := [.int q2]) (w' := (wM x.g a μ)) [.int x1, .int x2] [] (c_X6_place x.l x.g  x1 x2 e2) rfl rfl cw_X6_place q_721 q_722 ⟨by decide, by decide⟩ Fr.nil rfl (Nat.le_of_ble_eq_true rfl) dX6_passes_2 ?_
  refine v_istore X (pc := 5) (L2 := [(5, .int q2), (0, .ref (a 0)), (1, .int x1), (2, .int x2), (3, .int (b2i x3)), (4, .int x4)]) dX6_passes_5 (by decide) rfl ?_
  refine v_aload_n X (pc := 7) dX6_passes_7 rfl 1 rfl ?_
  refine v_iload X (pc := 8) dX6_passes_8 0 rfl ?_
  refine v_iload_n X (pc := 10) dX6_passes_10 rfl 4 rfl ?_
  obtain ⟨q11, e11, h⟩ := ob h
  refine v_callV X (pc := 11) (st1 := [.int q11]) (w' := (wM x.g a μ)) [.int q2, .int (b2i x3)] [] (c_X6_from x.l x.g a μ q2 x3 e11) rfl rfl cw_X6_from q_759 q_761 q_25 ⟨by decide, by decide⟩ 0 6 rfl rfl rfl (Fr.all rfl) rfl (Nat.le_of_ble_eq_true rfl) dX6_passes_11 ?_
  refine v_istore X (pc := 14) (L2 := [(6, .int q11), (5, .int q2), (0, .ref (a 0)), (1, .int x1), (2, .int x2), (3, .int (b2i x3)), (4, .int x4)]) dX6_passes_14 (by decide) rfl ?_
  refine v_aload_n X (pc := 16) dX6_passes_16 rfl 2 rfl ?_
  refine v_iload X (pc := 17) dX6_passes_17 1 rfl ?_
  refine v_iload_n X (pc := 19) dX6_passes_19 rfl 5 rfl ?_
  obtain ⟨q20, e20, h⟩ := ob h
  refine v_callV X (pc := 20) (st1 := [.int q20]) (w' := (wM x.g a μ)) [.int q2, .int (b2i x3)] [] (c_X6_to x.l x.g a μ q2 x3 e20) rfl rfl cw_X6_to q_763 q_765 q_26 ⟨by decide, by decide⟩ 0 6 rfl rfl rfl (Fr.all rfl) rfl (Nat.le_of_ble_eq_true rfl) dX6_passes_20 ?_
  refine v_istore X (pc := 23) (L2 := [(7, .int q20), (6, .int q11), (5, .int q2), (0, .ref (a 0)), (1, .int x1), (2, .int x2), (3, .int (b2i x3)), (4, .int x4)]) dX6_passes_23 (by decide) rfl ?_
  refine v_aload_n X (pc := 25) dX6_passes_25 rfl 3 rfl ?_
  refine v_get X (pc := 26) (v := .ref (a 1)) uw6 0 rfl rfl 0 (by decide) q_668 rfl rfl dX6_passes_26 ?_
  refine v_iload_n X (pc := 29) dX6_passes_29 rfl 4 rfl ?_
  refine v_bipush X (pc := 30) (v := 10) dX6_passes_30 (by decide) ?_
  refine v_iadd X (pc := 32) dX6_passes_32 ?_
  refine v_iload X (pc := 33) dX6_passes_33 1 rfl ?_
  refine v_iadd X (pc := 35) dX6_passes_35 ?_
  refine v_dup2 X (pc := 36) dX6_passes_36 rfl rfl ?_
  obtain ⟨g37, h⟩ := og h
  refine v_iald X (pc := 37) (v := ((μ 1) (Int32.toNatClampNeg ((x1 + 10) + q11)))) 1 rfl (ib_in g37) rfl dX6_passes_37 ?_
  refine v_iload X (pc := 38) dX6_passes_38 1 rfl ?_
  refine v_ifne X (pc := 40) (tgt := 47) dX6_passes_40 (by decide) (fun c => ?_) (fun c => ?_)
  · replace h := hn c h
    refine v_iload X (pc := 47) dX6_passes_47 7 rfl ?_
    refine v_isub X (pc := 49) dX6_passes_49 ?_
    obtain ⟨g50, h⟩ := og h
    obtain ⟨m50, em50, h⟩ := lts h
    refine v_iast X (pc := 50) (w' := (wM x.g a m50)) 1 rfl (ib_in g50) (by rw [← em50]; rfl) dX6_passes_50 ?_
    refine v_aload_n X (pc := 51) dX6_passes_51 rfl 3 rfl ?_
    refine v_get X (pc := 52) (v := .ref (a 1)) uw6 0 rfl rfl 0 (by decide) q_668 rfl rfl dX6_passes_52 ?_
    refine v_iload_n X (pc := 55) dX6_passes_55 rfl 4 rfl ?_
    refine v_bipush X (pc := 56) (v := 10) dX6_passes_56 (by decide) ?_
    refine v_iadd X (pc := 58) dX6_passes_58 ?_
    refine v_iload X (pc := 59) dX6_passes_59 0 rfl ?_
    refine v_iadd X (pc := 61) dX6_passes_61 ?_
    refine v_dup2 X (pc := 62) dX6_passes_62 rfl rfl ?_
    obtain ⟨g63, h⟩ := og h
    refine v_iald X (pc := 63) (v := ((m50 1) (Int32.toNatClampNeg ((x1 + 10) + q20)))) 1 rfl (ib_in g63) rfl dX6_passes_63 ?_
    refine v_iload X (pc := 64) dX6_passes_64 0 rfl ?_
    refine v_ifne X (pc := 66) (tgt := 73) dX6_passes_66 (by decide) (fun c => ?_) (fun c => ?_)
    · replace h := hn c h
      refine v_iload X (pc := 73) dX6_passes_73 7 rfl ?_
      refine v_iadd X (pc := 75) dX6_passes_75 ?_
      obtain ⟨g76, h⟩ := og h
      obtain ⟨m76, em76, h⟩ := lts h
      refine v_iast X (pc := 76) (w' := (wM x.g a m76)) 1 rfl (ib_in g76) (by rw [← em76]; rfl) dX6_passes_76 ?_
      refine v_aload_n X (pc := 77) dX6_passes_77 rfl 3 rfl ?_
      refine v_iload X (pc := 78) dX6_passes_78 2 rfl ?_
      refine v_iload_n X (pc := 80) dX6_passes_80 rfl 6 rfl ?_
      refine v_ifeqB X (pc := 81) (tgt := 88) dX6_passes_81 (by decide) (fun c => ?_) (fun c => ?_)
      · replace h := hn (nbt c) h
        refine v_iconst X (pc := 88) (v := 2) dX6_passes_88 (by decide) ?_
        refine v_iload X (pc := 89) dX6_passes_89 7 rfl ?_
        obtain ⟨q91, e91, h⟩ := ob h
        refine v_callV X (pc := 91) (st1 := []) (w' := (wM x.g a q91)) [.int q2, .int 2, .int x4] [] (c_X6_counts x.l x.g a m76 q2 2 x4 e91) rfl rfl cw_X6_counts q_775 q_777 q_29 ⟨by decide, by decide⟩ 0 6 rfl rfl rfl (Fr.all rfl) rfl (Nat.le_of_ble_eq_true rfl) dX6_passes_91 ?_
        refine v_aload_n X (pc := 94) dX6_passes_94 rfl 3 rfl ?_
        refine v_iload X (pc := 95) dX6_passes_95 2 rfl ?_
        refine v_iload_n X (pc := 97) dX6_passes_97 rfl 6 rfl ?_
        refine v_ifeqB X (pc := 98) (tgt := 105) dX6_passes_98 (by decide) (fun c => ?_) (fun c => ?_)
        · replace h := hn (nbt c) h
          refine v_iconst X (pc := 105) (v := 1) dX6_passes_105 (by decide) ?_
          refine v_iload X (pc := 106) dX6_passes_106 7 rfl ?_
          obtain ⟨q108, e108, h⟩ := ob h
          refine v_callV X (pc := 108) (st1 := []) (w' := (wM x.g a q108)) [.int q2, .int 1, .int x4] [] (c_X6_counts x.l x.g a q91 q2 1 x4 e108) rfl rfl cw_X6_counts q_775 q_777 q_29 ⟨by decide, by decide⟩ 0 6 rfl rfl rfl (Fr.all rfl) rfl (Nat.le_of_ble_eq_true rfl) dX6_passes_108 ?_
          replace h := oi h
          subst h
          exact v_vret X (pc := 111) F dX6_passes_111
        · replace h := hp c h
          refine v_iconst X (pc := 101) (v := 3) dX6_passes_101 (by decide) ?_
          refine v_goto X (pc := 102) (tgt := 106) dX6_passes_102 (by decide) ?_
          refine v_iload X (pc := 106) dX6_passes_106 7 rfl ?_
          obtain ⟨q108, e108, h⟩ := ob h
          refine v_callV X (pc := 108) (st1 := []) (w' := (wM x.g a q108)) [.int q2, .int 3, .int x4] [] (c_X6_counts x.l x.g a q91 q2 3 x4 e108) rfl rfl cw_X6_counts q_775 q_777 q_29 ⟨by decide, by decide⟩ 0 6 rfl rfl rfl (Fr.all rfl) rfl (Nat.le_of_ble_eq_true rfl) dX6_passes_108 ?_
          replace h := oi h
          subst h
          exact v_vret X (pc := 111) F dX6_passes_111
      · replace h := hp c h
        refine v_iconst X (pc := 84) (v := 0) dX6_passes_84 (by decide) ?_
        refine v_goto X (pc := 85) (tgt := 89) dX6_passes_85 (by decide) ?_
        refine v_iload X (pc := 89) dX6_passes_89 7 rfl ?_
        obtain ⟨q91, e91, h⟩ := ob h
        refine v_callV X (pc := 91) (st1 := []) (w' := (wM x.g a q91)) [.int q2, .int 0, .int x4] [] (c_X6_counts x.l x.g a m76 q2 0 x4 e91) rfl rfl cw_X6_counts q_775 q_777 q_29 ⟨by decide, by decide⟩ 0 6 rfl rfl rfl (Fr.all rfl) rfl (Nat.le_of_ble_eq_true rfl) dX6_passes_91 ?_
        refine v_aload_n X (pc := 94) dX6_passes_94 rfl 3 rfl ?_
        refine v_iload X (pc := 95) dX6_passes_95 2 rfl ?_
        refine v_iload_n X (pc := 97) dX6_passes_97 rfl 6 rfl ?_
        refine v_ifeqB X (pc := 98) (tgt := 105) dX6_passes_98 (by decide) (fun c => ?_) (fun c => ?_)
        · replace h := hn (nbt c) h
          refine v_iconst X (pc := 105) (v := 1) dX6_passes_105 (by decide) ?_
          refine v_iload X (pc := 106) dX6_passes_106 7 rfl ?_
          obtain ⟨q108, e108, h⟩ := ob h
          refine v_callV X (pc := 108) (st1 := []) (w' := (wM x.g a q108)) [.int q2, .int 1, .int x4] [] (c_X6_counts x.l x.g a q91 q2 1 x4 e108) rfl rfl cw_X6_counts q_775 q_777 q_29 ⟨by decide, by decide⟩ 0 6 rfl rfl rfl (Fr.all rfl) rfl (Nat.le_of_ble_eq_true rfl) dX6_passes_108 ?_
          replace h := oi h
          subst h
          exact v_vret X (pc := 111) F dX6_passes_111
        · replace h := hp c h
          refine v_iconst X (pc := 101) (v := 3) dX6_passes_101 (by decide) ?_
          refine v_goto X (pc := 102) (tgt := 106) dX6_passes_102 (by decide) ?_
          refine v_iload X (pc := 106) dX6_passes_106 7 rfl ?_
          obtain ⟨q108, e108, h⟩ := ob h
          refine v_callV X (pc := 108) (st1 := []) (w' := (wM x.g a q108)) [.int q2, .int 3, .int x4] [] (c_X6_counts x.l x.g a q91 q2 3 x4 e108) rfl rfl cw_X6_counts q_775 q_777 q_29 ⟨by decide, by decide⟩ 0 6 rfl rfl rfl (Fr.all rfl) rfl (Nat.le_of_ble_eq_true rfl) dX6_passes_108 ?_
          replace h := oi h
          subst h
          exact v_vret X (pc := 111) F dX6_passes_111
    · replace h := hp c h
      refine v_iconst X (pc := 69) (v := 0) dX6_passes_69 (by decide) ?_
      refine v_goto X (pc := 70) (tgt := 75) dX6_passes_70 (by decide) ?_
      refine v_iadd X (pc := 75) dX6_passes_75 ?_
      obtain ⟨g76, h⟩ := og h
      obtain ⟨m76, em76, h⟩ := lts h
      refine v_iast X (pc := 76) (w' := (wM x.g a m76)) 1 rfl (ib_in g76) (by rw [← em76]; rfl) dX6_passes_76 ?_
      refine v_aload_n X (pc := 77) dX6_passes_77 rfl 3 rfl ?_
      refine v_iload X (pc := 78) dX6_passes_78 2 rfl ?_
      refine v_iload_n X (pc := 80) dX6_passes_80 rfl 6 rfl ?_
      refine v_ifeqB X (pc := 81) (tgt := 88) dX6_passes_81 (by decide) (fun c => ?_) (fun c => ?_)
      · replace h := hn (nbt c) h
        refine v_iconst X (pc := 88) (v := 2) dX6_passes_88 (by decide) ?_
        refine v_iload X (pc := 89) dX6_passes_89 7 rfl ?_
        obtain ⟨q91, e91, h⟩ := ob h
        refine v_callV X (pc := 91) (st1 := []) (w' := (wM x.g a q91)) [.int q2, .int 2, .int x4] [] (c_X6_counts x.l x.g a m76 q2 2 x4 e91) rfl rfl cw_X6_counts q_775 q_777 q_29 ⟨by decide, by decide⟩ 0 6 rfl rfl rfl (Fr.all rfl) rfl (Nat.le_of_ble_eq_true rfl) dX6_passes_91 ?_
        refine v_aload_n X (pc := 94) dX6_passes_94 rfl 3 rfl ?_
        refine v_iload X (pc := 95) dX6_passes_95 2 rfl ?_
        refine v_iload_n X (pc := 97) dX6_passes_97 rfl 6 rfl ?_
        refine v_ifeqB X (pc := 98) (tgt := 105) dX6_passes_98 (by decide) (fun c => ?_) (fun c => ?_)
        · replace h := hn (nbt c) h
          refine v_iconst X (pc := 105) (v := 1) dX6_passes_105 (by decide) ?_
          refine v_iload X (pc := 106) dX6_passes_106 7 rfl ?_
          obtain ⟨q108, e108, h⟩ := ob h
          refine v_callV X (pc := 108) (st1 := []) (w' := (wM x.g a q108)) [.int q2, .int 1, .int x4] [] (c_X6_counts x.l x.g a q91 q2 1 x4 e108) rfl rfl cw_X6_counts q_775 q_777 q_29 ⟨by decide, by decide⟩ 0 6 rfl rfl rfl (Fr.all rfl) rfl (Nat.le_of_ble_eq_true rfl) dX6_passes_108 ?_
          replace h := oi h
          subst h
          exact v_vret X (pc := 111) F dX6_passes_111
        · replace h := hp c h
          refine v_iconst X (pc := 101) (v := 3) dX6_passes_101 (by decide) ?_
          refine v_goto X (pc := 102) (tgt := 106) dX6_passes_102 (by decide) ?_
          refine v_iload X (pc := 106) dX6_passes_106 7 rfl ?_
          obtain ⟨q108, e108, h⟩ := ob h
          refine v_callV X (pc := 108) (st1 := []) (w' := (wM x.g a q108)) [.int q2, .int 3, .int x4] [] (c_X6_counts x.l x.g a q91 q2 3 x4 e108) rfl rfl cw_X6_counts q_775 q_777 q_29 ⟨by decide, by decide⟩ 0 6 rfl rfl rfl (Fr.all rfl) rfl (Nat.le_of_ble_eq_true rfl) dX6_passes_108 ?_
          replace h := oi h
          subst h
          exact v_vret X (pc := 111) F dX6_passes_111
      · replace h := hp c h
        refine v_iconst X (pc := 84) (v := 0) dX6_passes_84 (by decide) ?_
        refine v_goto X (pc := 85) (tgt := 89) dX6_passes_85 (by decide) ?_
        refine v_iload X (pc := 89) dX6_passes_89 7 rfl ?_
        obtain ⟨q91, e91, h⟩ := ob h
        refine v_callV X (pc := 91) (st1 := []) (w' := (wM x.g a q91)) [.int q2, .int 0, .int x4] [] (c_X6_counts x.l x.g a m76 q2 0 x4 e91) rfl rfl cw_X6_counts q_775 q_777 q_29 ⟨by decide, by decide⟩ 0 6 rfl rfl rfl (Fr.all rfl) rfl (Nat.le_of_ble_eq_true rfl) dX6_passes_91 ?_
        refine v_aload_n X (pc := 94) dX6_passes_94 rfl 3 rfl ?_
        refine v_iload X (pc := 95) dX6_passes_95 2 rfl ?_
        refine v_iload_n X (pc := 97) dX6_passes_97 rfl 6 rfl ?_
        refine v_ifeqB X (pc := 98) (tgt := 105) dX6_passes_98 (by decide) (fun c => ?_) (fun c => ?_)
        · replace h := hn (nbt c) h
          refine v_iconst X (pc := 105) (v := 1) dX6_passes_105 (by decide) ?_
          refine v_iload X (pc := 106) dX6_passes_106 7 rfl ?_
          obtain ⟨q108, e108, h⟩ := ob h
          refine v_callV X (pc := 108) (st1 := []) (w' := (wM x.g a q108)) [.int q2, .int 1, .int x4] [] (c_X6_counts x.l x.g a q91 q2 1 x4 e108) rfl rfl cw_X6_counts q_775 q_777 q_29 ⟨by decide, by decide⟩ 0 6 rfl rfl rfl (Fr.all rfl) rfl (Nat.le_of_ble_eq_true rfl) dX6_passes_108 ?_
          replace h := oi h
          subst h
          exact v_vret X (pc := 111) F dX6_passes_111
        · replace h := hp c h
          refine v_iconst X (pc := 101) (v := 3) dX6_passes_101 (by decide) ?_
          refine v_goto X (pc := 102) (tgt := 106) dX6_passes_102 (by decide) ?_
          refine v_iload X (pc := 106) dX6_passes_106 7 rfl ?_
          obtain ⟨q108, e108, h⟩ := ob h
          refine v_callV X (pc := 108) (st1 := []) (w' := (wM x.g a q108)) [.int q2, .int 3, .int x4] [] (c_X6_counts x.l x.g a q91 q2 3 x4 e108) rfl rfl cw_X6_counts q_775 q_777 q_29 ⟨by decide, by decide⟩ 0 6 rfl rfl rfl (Fr.all rfl) rfl (Nat.le_of_ble_eq_true rfl) dX6_passes_108 ?_
          replace h := oi h
          subst h
          exact v_vret X (pc := 111) F dX6_passes_111
  · replace h := hp c h
    refine v_iconst X (pc := 43) (v := 0) dX6_passes_43 (by decide) ?_
    refine v_goto X (pc := 44) (tgt := 49) dX6_passes_44 (by decide) ?_
    refine v_isub X (pc := 49) dX6_passes_49 ?_
    obtain ⟨g50, h⟩ := og h
    obtain ⟨m50, em50, h⟩ := lts h
    refine v_iast X (pc := 50) (w' := (wM x.g a m50)) 1 rfl (ib_in g50) (by rw [← em50]; rfl) dX6_passes_50 ?_
    refine v_aload_n X (pc := 51) dX6_passes_51 rfl 3 rfl ?_
    refine v_get X (pc := 52) (v := .ref (a 1)) uw6 0 rfl rfl 0 (by decide) q_668 rfl rfl dX6_passes_52 ?_
    refine v_iload_n X (pc := 55) dX6_passes_55 rfl 4 rfl ?_
    refine v_bipush X (pc := 56) (v := 10) dX6_passes_56 (by decide) ?_
    refine v_iadd X (pc := 58) dX6_passes_58 ?_
    refine v_iload X (pc := 59) dX6_passes_59 0 rfl ?_
    refine v_iadd X (pc := 61) dX6_passes_61 ?_
    refine v_dup2 X (pc := 62) dX6_passes_62 rfl rfl ?_
    obtain ⟨g63, h⟩ := og h
    refine v_iald X (pc := 63) (v := ((m50 1) (Int32.toNatClampNeg ((x1 + 10) + q20)))) 1 rfl (ib_in g63) rfl dX6_passes_63 ?_
    refine v_iload X (pc := 64) dX6_passes_64 0 rfl ?_
    refine v_ifne X (pc := 66) (tgt := 73) dX6_passes_66 (by decide) (fun c => ?_) (fun c => ?_)
    · replace h := hn c h
      refine v_iload X (pc := 73) dX6_passes_73 7 rfl ?_
      refine v_iadd X (pc := 75) dX6_passes_75 ?_
      obtain ⟨g76, h⟩ := og h
      obtain ⟨m76, em76, h⟩ := lts h
      refine v_iast X (pc := 76) (w' := (wM x.g a m76)) 1 rfl (ib_in g76) (by rw [← em76]; rfl) dX6_passes_76 ?_
      refine v_aload_n X (pc := 77) dX6_passes_77 rfl 3 rfl ?_
      refine v_iload X (pc := 78) dX6_passes_78 2 rfl ?_
      refine v_iload_n X (pc := 80) dX6_passes_80 rfl 6 rfl ?_
      refine v_ifeqB X (pc := 81) (tgt := 88) dX6_passes_81 (by decide) (fun c => ?_) (fun c => ?_)
      · replace h := hn (nbt c) h
        refine v_iconst X (pc := 88) (v := 2) dX6_passes_88 (by decide) ?_
        refine v_iload X (pc := 89) dX6_passes_89 7 rfl ?_
        obtain ⟨q91, e91, h⟩ := ob h
        refine v_callV X (pc := 91) (st1 := []) (w' := (wM x.g a q91)) [.int q2, .int 2, .int x4] [] (c_X6_counts x.l x.g a m76 q2 2 x4 e91) rfl rfl cw_X6_counts q_775 q_777 q_29 ⟨by decide, by decide⟩ 0 6 rfl rfl rfl (Fr.all rfl) rfl (Nat.le_of_ble_eq_true rfl) dX6_passes_91 ?_
        refine v_aload_n X (pc := 94) dX6_passes_94 rfl 3 rfl ?_
        refine v_iload X (pc := 95) dX6_passes_95 2 rfl ?_
        refine v_iload_n X (pc := 97) dX6_passes_97 rfl 6 rfl ?_
        refine v_ifeqB X (pc := 98) (tgt := 105) dX6_passes_98 (by decide) (fun c => ?_) (fun c => ?_)
        · replace h := hn (nbt c) h
          refine v_iconst X (pc := 105) (v := 1) dX6_passes_105 (by decide) ?_
          refine v_iload X (pc := 106) dX6_passes_106 7 rfl ?_
          obtain ⟨q108, e108, h⟩ := ob h
          refine v_callV X (pc := 108) (st1 := []) (w' := (wM x.g a q108)) [.int q2, .int 1, .int x4] [] (c_X6_counts x.l x.g a q91 q2 1 x4 e108) rfl rfl cw_X6_counts q_775 q_777 q_29 ⟨by decide, by decide⟩ 0 6 rfl rfl rfl (Fr.all rfl) rfl (Nat.le_of_ble_eq_true rfl) dX6_passes_108 ?_
          replace h := oi h
          subst h
          exact v_vret X (pc := 111) F dX6_passes_111
        · replace h := hp c h
          refine v_iconst X (pc := 101) (v := 3) dX6_passes_101 (by decide) ?_
          refine v_goto X (pc := 102) (tgt := 106) dX6_passes_102 (by decide) ?_
          refine v_iload X (pc := 106) dX6_passes_106 7 rfl ?_
          obtain ⟨q108, e108, h⟩ := ob h
          refine v_callV X (pc := 108) (st1 := []) (w' := (wM x.g a q108)) [.int q2, .int 3, .int x4] [] (c_X6_counts x.l x.g a q91 q2 3 x4 e108) rfl rfl cw_X6_counts q_775 q_777 q_29 ⟨by decide, by decide⟩ 0 6 rfl rfl rfl (Fr.all rfl) rfl (Nat.le_of_ble_eq_true rfl) dX6_passes_108 ?_
          replace h := oi h
          subst h
          exact v_vret X (pc := 111) F dX6_passes_111
      · replace h := hp c h
        refine v_iconst X (pc := 84) (v := 0) dX6_passes_84 (by decide) ?_
        refine v_goto X (pc := 85) (tgt := 89) dX6_passes_85 (by decide) ?_
        refine v_iload X (pc := 89) dX6_passes_89 7 rfl ?_
        obtain ⟨q91, e91, h⟩ := ob h
        refine v_callV X (pc := 91) (st1 := []) (w' := (wM x.g a q91)) [.int q2, .int 0, .int x4] [] (c_X6_counts x.l x.g a m76 q2 0 x4 e91) rfl rfl cw_X6_counts q_775 q_777 q_29 ⟨by decide, by decide⟩ 0 6 rfl rfl rfl (Fr.all rfl) rfl (Nat.le_of_ble_eq_true rfl) dX6_passes_91 ?_
        refine v_aload_n X (pc := 94) dX6_passes_94 rfl 3 rfl ?_
        refine v_iload X (pc := 95) dX6_passes_95 2 rfl ?_
        refine v_iload_n X (pc := 97) dX6_passes_97 rfl 6 rfl ?_
        refine v_ifeqB X (pc := 98) (tgt := 105) dX6_passes_98 (by decide) (fun c => ?_) (fun c => ?_)
        · replace h := hn (nbt c) h
          refine v_iconst X (pc := 105) (v := 1) dX6_passes_105 (by decide) ?_
          refine v_iload X (pc := 106) dX6_passes_106 7 rfl ?_
          obtain ⟨q108, e108, h⟩ := ob h
          refine v_callV X (pc := 108) (st1 := []) (w' := (wM x.g a q108)) [.int q2, .int 1, .int x4] [] (c_X6_counts x.l x.g a q91 q2 1 x4 e108) rfl rfl cw_X6_counts q_775 q_777 q_29 ⟨by decide, by decide⟩ 0 6 rfl rfl rfl (Fr.all rfl) rfl (Nat.le_of_ble_eq_true rfl) dX6_passes_108 ?_
          replace h := oi h
          subst h
          exact v_vret X (pc := 111) F dX6_passes_111
        · replace h := hp c h
          refine v_iconst X (pc := 101) (v := 3) dX6_passes_101 (by decide) ?_
          refine v_goto X (pc := 102) (tgt := 106) dX6_passes_102 (by decide) ?_
          refine v_iload X (pc := 106) dX6_passes_106 7 rfl ?_
          obtain ⟨q108, e108, h⟩ := ob h
          refine v_callV X (pc := 108) (st1 := []) (w' := (wM x.g a q108)) [.int q2, .int 3, .int x4] [] (c_X6_counts x.l x.g a q91 q2 3 x4 e108) rfl rfl cw_X6_counts q_775 q_777 q_29 ⟨by decide, by decide⟩ 0 6 rfl rfl rfl (Fr.all rfl) rfl (Nat.le_of_ble_eq_true rfl) dX6_passes_108 ?_
          replace h := oi h
          subst h
          exact v_vret X (pc := 111) F dX6_passes_111
    · replace h := hp c h
      refine v_iconst X (pc := 69) (v := 0) dX6_passes_69 (by decide) ?_
      refine v_goto X (pc := 70) (tgt := 75) dX6_passes_70 (by decide) ?_
      refine v_iadd X (pc := 75) dX6_passes_75 ?_
      obtain ⟨g76, h⟩ := og h
      obtain ⟨m76, em76, h⟩ := lts h
      refine v_iast X (pc := 76) (w' := (wM x.g a m76)) 1 rfl (ib_in g76) (by rw [← em76]; rfl) dX6_passes_76 ?_
      refine v_aload_n X (pc := 77) dX6_passes_77 rfl 3 rfl ?_
      refine v_iload X (pc := 78) dX6_passes_78 2 rfl ?_
      refine v_iload_n X (pc := 80) dX6_passes_80 rfl 6 rfl ?_
      refine v_ifeqB X (pc := 81) (tgt := 88) dX6_passes_81 (by decide) (fun c => ?_) (fun c => ?_)
      · replace h := hn (nbt c) h
        refine v_iconst X (pc := 88) (v := 2) dX6_passes_88 (by decide) ?_
        refine v_iload X (pc := 89) dX6_passes_89 7 rfl ?_
        obtain ⟨q91, e91, h⟩ := ob h
        refine v_callV X (pc := 91) (st1 := []) (w' := (wM x.g a q91)) [.int q2, .int 2, .int x4] [] (c_X6_counts x.l x.g a m76 q2 2 x4 e91) rfl rfl cw_X6_counts q_775 q_777 q_29 ⟨by decide, by decide⟩ 0 6 rfl rfl rfl (Fr.all rfl) rfl (Nat.le_of_ble_eq_true rfl) dX6_passes_91 ?_
        refine v_aload_n X (pc := 94) dX6_passes_94 rfl 3 rfl ?_
        refine v_iload X (pc := 95) dX6_passes_95 2 rfl ?_
        refine v_iload_n X (pc := 97) dX6_passes_97 rfl 6 rfl ?_
        refine v_ifeqB X (pc := 98) (tgt := 105) dX6_passes_98 (by decide) (fun c => ?_) (fun c => ?_)
        · replace h := hn (nbt c) h
          refine v_iconst X (pc := 105) (v := 1) dX6_passes_105 (by decide) ?_
          refine v_iload X (pc := 106) dX6_passes_106 7 rfl ?_
          obtain ⟨q108, e108, h⟩ := ob h
          refine v_callV X (pc := 108) (st1 := []) (w' := (wM x.g a q108)) [.int q2, .int 1, .int x4] [] (c_X6_counts x.l x.g a q91 q2 1 x4 e108) rfl rfl cw_X6_counts q_775 q_777 q_29 ⟨by decide, by decide⟩ 0 6 rfl rfl rfl (Fr.all rfl) rfl (Nat.le_of_ble_eq_true rfl) dX6_passes_108 ?_
          replace h := oi h
          subst h
          exact v_vret X (pc := 111) F dX6_passes_111
        · replace h := hp c h
          refine v_iconst X (pc := 101) (v := 3) dX6_passes_101 (by decide) ?_
          refine v_goto X (pc := 102) (tgt := 106) dX6_passes_102 (by decide) ?_
          refine v_iload X (pc := 106) dX6_passes_106 7 rfl ?_
          obtain ⟨q108, e108, h⟩ := ob h
          refine v_callV X (pc := 108) (st1 := []) (w' := (wM x.g a q108)) [.int q2, .int 3, .int x4] [] (c_X6_counts x.l x.g a q91 q2 3 x4 e108) rfl rfl cw_X6_counts q_775 q_777 q_29 ⟨by decide, by decide⟩ 0 6 rfl rfl rfl (Fr.all rfl) rfl (Nat.le_of_ble_eq_true rfl) dX6_passes_108 ?_
          replace h := oi h
          subst h
          exact v_vret X (pc := 111) F dX6_passes_111
      · replace h := hp c h
        refine v_iconst X (pc := 84) (v := 0) dX6_passes_84 (by decide) ?_
        refine v_goto X (pc := 85) (tgt := 89) dX6_passes_85 (by decide) ?_
        refine v_iload X (pc := 89) dX6_passes_89 7 rfl ?_
        obtain ⟨q91, e91, h⟩ := ob h
        refine v_callV X (pc := 91) (st1 := []) (w' := (wM x.g a q91)) [.int q2, .int 0, .int x4] [] (c_X6_counts x.l x.g a m76 q2 0 x4 e91) rfl rfl cw_X6_counts q_775 q_777 q_29 ⟨by decide, by decide⟩ 0 6 rfl rfl rfl (Fr.all rfl) rfl (Nat.le_of_ble_eq_true rfl) dX6_passes_91 ?_
        refine v_aload_n X (pc := 94) dX6_passes_94 rfl 3 rfl ?_
        refine v_iload X (pc := 95) dX6_passes_95 2 rfl ?_
        refine v_iload_n X (pc := 97) dX6_passes_97 rfl 6 rfl ?_
        refine v_ifeqB X (pc := 98) (tgt := 105) dX6_passes_98 (by decide) (fun c => ?_) (fun c => ?_)
        · replace h := hn (nbt c) h
          refine v_iconst X (pc := 105) (v := 1) dX6_passes_105 (by decide) ?_
          refine v_iload X (pc := 106) dX6_passes_106 7 rfl ?_
          obtain ⟨q108, e108, h⟩ := ob h
          refine v_callV X (pc := 108) (st1 := []) (w' := (wM x.g a q108)) [.int q2, .int 1, .int x4] [] (c_X6_counts x.l x.g a q91 q2 1 x4 e108) rfl rfl cw_X6_counts q_775 q_777 q_29 ⟨by decide, by decide⟩ 0 6 rfl rfl rfl (Fr.all rfl) rfl (Nat.le_of_ble_eq_true rfl) dX6_passes_108 ?_
          replace h := oi h
          subst h
          exact v_vret X (pc := 111) F dX6_passes_111
        · replace h := hp c h
          refine v_iconst X (pc := 101) (v := 3) dX6_passes_101 (by decide) ?_
          refine v_goto X (pc := 102) (tgt := 106) dX6_passes_102 (by decide) ?_
          refine v_iload X (pc := 106) dX6_passes_106 7 rfl ?_
          obtain ⟨q108, e108, h⟩ := ob h
          refine v_callV X (pc := 108) (st1 := []) (w' := (wM x.g a q108)) [.int q2, .int 3, .int x4] [] (c_X6_counts x.l x.g a q91 q2 3 x4 e108) rfl rfl cw_X6_counts q_775 q_777 q_29 ⟨by decide, by decide⟩ 0 6 rfl rfl rfl (Fr.all rfl) rfl (Nat.le_of_ble_eq_true rfl) dX6_passes_108 ?_
          replace h := oi h
          subst h
          exact v_vret X (pc := 111) F dX6_passes_111
theorem cw_X6_passes : CwB yX6_passes cX6_passes 8 (Option.none : Option FieldType) 4 := ⟨q_774, q_57, by decide, by decide, by decide +kernel⟩
def f_X6_atMost (μ : Blk) (x1 : Int32) (x2 : Int32) (x3 : Bool) (x4 : Int32) : Option (Int32) :=
  lt (f_X6_place x1 x2) fun q2 => (f_X6_from μ q2 x3).bind fun q11 => (f_X6_to μ q2 x3).bind fun q20 => (f_X6_barred μ q2 x3).bind fun q29 => (if q29 ≤ 0 then (if q11 = 0 then (if ib ((x1 + 4) + q20) 2048 = true then (if ib ((x1 + 10) + q20) 2048 = true then (if q20 = 0 then some x4 else (if x4 ≤ (((μ 1) (Int32.toNatClampNeg ((x1 + 4) + q20))) - ((μ 1) (Int32.toNatClampNeg ((x1 + 10) + q20)))) then some x4 else some (((μ 1) (Int32.toNatClampNeg ((x1 + 4) + q20))) - ((μ 1) (Int32.toNatClampNeg ((x1 + 10) + q20)))))) else none) else none) else (if ib ((x1 + 10) + q11) 2048 = true then (if x4 ≤ ((μ 1) (Int32.toNatClampNeg ((x1 + 10) + q11))) then (if ib ((x1 + 4) + q20) 2048 = true then (if ib ((x1 + 10) + q20) 2048 = true then (if q20 = 0 then some x4 else (if x4 ≤ (((μ 1) (Int32.toNatClampNeg ((x1 + 4) + q20))) - ((μ 1) (Int32.toNatClampNeg ((x1 + 10) + q20)))) then some x4 else some (((μ 1) (Int32.toNatClampNeg ((x1 + 4) + q20))) - ((μ 1) (Int32.toNatClampNeg ((x1 + 10) + q20)))))) else none) else none) else (if ib ((x1 + 10) + q11) 2048 = true then (if ib ((x1 + 4) + q20) 2048 = true then (if ib ((x1 + 10) + q20) 2048 = true then (if q20 = 0 then some ((μ 1) (Int32.toNatClampNeg ((x1 + 10) + q11))) else (if ((μ 1) (Int32.toNatClampNeg ((x1 + 10) + q11))) ≤ (((μ 1) (Int32.toNatClampNeg ((x1 + 4) + q20))) - ((μ 1) (Int32.toNatClampNeg ((x1 + 10) + q20)))) then some ((μ 1) (Int32.toNatClampNeg ((x1 + 10) + q11))) else some (((μ 1) (Int32.toNatClampNeg ((x1 + 4) + q20))) - ((μ 1) (Int32.toNatClampNeg ((x1 + 10) + q20)))))) else none) else none) else none)) else none)) else (if q11 = 0 then (if ib ((x1 + 4) + q20) 2048 = true then (if ib ((x1 + 10) + q20) 2048 = true then (if q20 = 0 then some 0 else (if 0 ≤ (((μ 1) (Int32.toNatClampNeg ((x1 + 4) + q20))) - ((μ 1) (Int32.toNatClampNeg ((x1 + 10) + q20)))) then some 0 else some (((μ 1) (Int32.toNatClampNeg ((x1 + 4) + q20))) - ((μ 1) (Int32.toNatClampNeg ((x1 + 10) + q20)))))) else none) else none) else (if ib ((x1 + 10) + q11) 2048 = true then (if 0 ≤ ((μ 1) (Int32.toNatClampNeg ((x1 + 10) + q11))) then (if ib ((x1 + 4) + q20) 2048 = true then (if ib ((x1 + 10) + q20) 2048 = true then (if q20 = 0 then some 0 else (if 0 ≤ (((μ 1) (Int32.toNatClampNeg ((x1 + 4) + q20))) - ((μ 1) (Int32.toNatClampNeg ((x1 + 10) + q20)))) then some 0 else some (((μ 1) (Int32.toNatClampNeg ((x1 + 4) + q20))) - ((μ 1) (Int32.toNatClampNeg ((x1 + 10) + q20)))))) else none) else none) else (if ib ((x1 + 10) + q11) 2048 = true then (if ib ((x1 + 4) + q20) 2048 = true then (if ib ((x1 + 10) + q20) 2048 = true then (if q20 = 0 then some ((μ 1) (Int32.toNatClampNeg ((x1 + 10) + q11))) else (if ((μ 1) (Int32.toNatClampNeg ((x1 + 10) + q11))) ≤ (((μ 1) (Int32.toNatClampNeg ((x1 + 4) + q20))) - ((μ 1) (Int32.toNatClampNeg ((x1 + 10) + q20)))) then some ((μ 1) (Int32.toNatClampNeg ((x1 + 10) + q11))) else some (((μ 1) (Int32.toNatClampNeg ((x1 + 4) + q20))) - ((μ 1) (Int32.toNatClampNeg ((x1 + 10) + q20)))))) else none) else none) else none)) else none)))
set_option maxHeartbeats 4000000 in
set_option maxRecDepth 100000 in
theorem c_X6_atMost (l : Launch) (g : Gl) (a : Nat → Nat) (μ : Blk) (x1 : Int32) (x2 : Int32) (x3 : Bool) (x4 : Int32) {res : Int32} (h : f_X6_atMost μ x1 x2 x3 x4 = some res) : Ok l g yX6_atMost cX6_atMost 10 (Option.some FieldType.int) 1 23 [.ref (a 0), .int x1, .int x2, .int (b2i x3), .int x4] (wM g a μ) (some (.int res)) (wM g a μ) := by
  refine Ok.of RX6 (by decide) rfl (Nat.le_of_ble_eq_true rfl) (fun x hl hg X F => ?_)
  subst hg; subst hl
  rw [f_X6_atMost] at h
  show V x (wM x.g a μ) [(0, .ref (a 0)), (1, .int x1), (2, .int x2), (3, .int (b2i x3)), (4, .int x4)] [] 0
  refine v_iload_n X (pc := 0) dX6_atMost_0 rfl 1 rfl ?_
  refine v_iload_n X (pc := 1) dX6_atMost_1 rfl 2 rfl ?_
  obtain ⟨q2, e2, h⟩ := lts h
  refine v_callS X (pc := 2) (st1 := [.int q2]) (w' := (wM x.g a μ)) [.int x1, .int x2] [] (c_X6_place x.l x.g  x1 x2 e2) rfl rfl cw_X6_place q_721 q_722 ⟨by decide, by decide⟩ Fr.nil rfl (Nat.le_of_ble_eq_true rfl) dX6_atMost_2 ?_
  refine v_istore X (pc := 5) (L2 := [(5, .int q2), (0, .ref (a 0)), (1, .int x1), (2, .int x2), (3, .int (b2i x3)), (4, .int x4)]) dX6_atMost_5 (by decide) rfl ?_
  refine v_aload_n X (pc := 7) dX6_atMost_7 rfl 1 rfl ?_
  refine v_iload X (pc := 8) dX6_atMost_8 0 rfl ?_
  refine v_iload_n X (pc := 10) dX6_atMost_10 rfl 4 rfl ?_
  obtain ⟨q11, e11, h⟩ := ob h
  refine v_callV X (pc := 11) (st1 := [.int q11]) (w' := (wM x.g a μ)) [.int q2, .int (b2i x3)] [] (c_X6_from x.l x.g a μ q2 x3 e11) rfl rfl cw_X6_from q_759 q_761 q_25 ⟨by decide, by decide⟩ 0 6 rfl rfl rfl (Fr.all rfl) rfl (Nat.le_of_ble_eq_true rfl) dX6_atMost_11 ?_
  refine v_istore X (pc := 14) (L2 := [(6, .int q11), (5, .int q2), (0, .ref (a 0)), (1, .int x1), (2, .int x2), (3, .int (b2i x3)), (4, .int x4)]) dX6_atMost_14 (by decide) rfl ?_
  refine v_aload_n X (pc := 16) dX6_atMost_16 rfl 2 rfl ?_
  refine v_iload X (pc := 17) dX6_atMost_17 1 rfl ?_
  refine v_iload_n X (pc := 19) dX6_atMost_19 rfl 5 rfl ?_
  obtain ⟨q20, e20, h⟩ := ob h
  refine v_callV X (pc := 20) (st1 := [.int q20]) (w' := (wM x.g a μ)) [.int q2, .int (b2i x3)] [] (c_X6_to x.l x.g a μ q2 x3 e20) rfl rfl cw_X6_to q_763 q_765 q_26 ⟨by decide, by decide⟩ 0 6 rfl rfl rfl (Fr.all rfl) rfl (Nat.le_of_ble_eq_true rfl) dX6_atMost_20 ?_
  refine v_istore X (pc := 23) (L2 := [(7, .int q20), (6, .int q11), (5, .int q2), (0, .ref (a 0)), (1, .int x1), (2, .int x2), (3, .int (b2i x3)), (4, .int x4)]) dX6_atMost_23 (by decide) rfl ?_
  refine v_aload_n X (pc := 25) dX6_atMost_25 rfl 3 rfl ?_
  refine v_iload X (pc := 26) dX6_atMost_26 2 rfl ?_
  refine v_iload_n X (pc := 28) dX6_atMost_28 rfl 6 rfl ?_
  obtain ⟨q29, e29, h⟩ := ob h
  refine v_callV X (pc := 29) (st1 := [.int q29]) (w' := (wM x.g a μ)) [.int q2, .int (b2i x3)] [] (c_X6_barred x.l x.g a μ q2 x3 e29) rfl rfl cw_X6_barred q_767 q_769 q_27 ⟨by decide, by decide⟩ 0 6 rfl rfl rfl (Fr.all rfl) rfl (Nat.le_of_ble_eq_true rfl) dX6_atMost_29 ?_
  refine v_ifle X (pc := 32) (tgt := 39) dX6_atMost_32 (by decide) (fun c => ?_) (fun c => ?_)
  · replace h := hp c h
    refine v_iload X (pc := 39) dX6_atMost_39 7 rfl ?_
    refine v_istore X (pc := 41) (L2 := [(8, .int x4), (7, .int q20), (6, .int q11), (5, .int q2), (0, .ref (a 0)), (1, .int x1), (2, .int x2), (3, .int (b2i x3)), (4, .int x4)]) dX6_atMost_41 (by decide) rfl ?_
    refine v_iload X (pc := 43) dX6_atMost_43 2 rfl ?_
    refine v_ifeq X (pc := 45) (tgt := 80) dX6_atMost_45 (by decide) (fun c => ?_) (fun c => ?_)
    · replace h := hp c h
      refine v_iload X (pc := 80) dX6_atMost_80 0 rfl ?_
      refine v_istore X (pc := 82) (L2 := [(8, .int x4), (7, .int q20), (6, .int q11), (5, .int q2), (0, .ref (a 0)), (1, .int x1), (2, .int x2), (3, .int (b2i x3)), (4, .int x4)]) dX6_atMost_82 (by decide) rfl ?_
      refine v_aload_n X (pc := 84) dX6_atMost_84 rfl 4 rfl ?_
      refine v_get X (pc := 85) (v := .ref (a 1)) uw6 0 rfl rfl 0 (by decide) q_668 rfl rfl dX6_atMost_85 ?_
      refine v_iload_n X (pc := 88) dX6_atMost_88 rfl 5 rfl ?_
      refine v_iconst X (pc := 89) (v := 4) dX6_atMost_89 (by decide) ?_
      refine v_iadd X (pc := 90) dX6_atMost_90 ?_
      refine v_iload X (pc := 91) dX6_atMost_91 1 rfl ?_
      refine v_iadd X (pc := 93) dX6_atMost_93 ?_
      obtain ⟨g94, h⟩ := og h
      refine v_iald X (pc := 94) (v := ((μ 1) (Int32.toNatClampNeg ((x1 + 4) + q20)))) 1 rfl (ib_in g94) rfl dX6_atMost_94 ?_
      refine v_aload_n X (pc := 95) dX6_atMost_95 rfl 4 rfl ?_
      refine v_get X (pc := 96) (v := .ref (a 1)) uw6 0 rfl rfl 0 (by decide) q_668 rfl rfl dX6_atMost_96 ?_
      refine v_iload_n X (pc := 99) dX6_atMost_99 rfl 5 rfl ?_
      refine v_bipush X (pc := 100) (v := 10) dX6_atMost_100 (by decide) ?_
      refine v_iadd X (pc := 102) dX6_atMost_102 ?_
      refine v_iload X (pc := 103) dX6_atMost_103 1 rfl ?_
      refine v_iadd X (pc := 105) dX6_atMost_105 ?_
      obtain ⟨g106, h⟩ := og h
      refine v_iald X (pc := 106) (v := ((μ 1) (Int32.toNatClampNeg ((x1 + 10) + q20)))) 1 rfl (ib_in g106) rfl dX6_atMost_106 ?_
      refine v_isub X (pc := 107) dX6_atMost_107 ?_
      refine v_istore X (pc := 108) (L2 := [(9, .int (((μ 1) (Int32.toNatClampNeg ((x1 + 4) + q20))) - ((μ 1) (Int32.toNatClampNeg ((x1 + 10) + q20))))), (8, .int x4), (7, .int q20), (6, .int q11), (5, .int q2), (0, .ref (a 0)), (1, .int x1), (2, .int x2), (3, .int (b2i x3)), (4, .int x4)]) dX6_atMost_108 (by decide) rfl ?_
      refine v_iload X (pc := 110) dX6_atMost_110 2 rfl ?_
      refine v_ifeq X (pc := 112) (tgt := 127) dX6_atMost_112 (by decide) (fun c => ?_) (fun c => ?_)
      · replace h := hp c h
        refine v_iload X (pc := 127) dX6_atMost_127 1 rfl ?_
        replace h := oi h
        subst h
        exact v_iret X (pc := 129) F dX6_atMost_129
      · replace h := hn c h
        refine v_iload X (pc := 115) dX6_atMost_115 0 rfl ?_
        refine v_iload X (pc := 117) dX6_atMost_117 1 rfl ?_
        refine v_icmpge X (pc := 119) (tgt := 127) dX6_atMost_119 (by decide) (fun c => ?_) (fun c => ?_)
        · replace h := hp c h
          refine v_iload X (pc := 127) dX6_atMost_127 1 rfl ?_
          replace h := oi h
          subst h
          exact v_iret X (pc := 129) F dX6_atMost_129
        · replace h := hn c h
          refine v_iload X (pc := 122) dX6_atMost_122 0 rfl ?_
          refine v_goto X (pc := 124) (tgt := 129) dX6_atMost_124 (by decide) ?_
          replace h := oi h
          subst h
          exact v_iret X (pc := 129) F dX6_atMost_129
    · replace h := hn c h
      refine v_aload_n X (pc := 48) dX6_atMost_48 rfl 4 rfl ?_
      refine v_get X (pc := 49) (v := .ref (a 1)) uw6 0 rfl rfl 0 (by decide) q_668 rfl rfl dX6_atMost_49 ?_
      refine v_iload_n X (pc := 52) dX6_atMost_52 rfl 5 rfl ?_
      refine v_bipush X (pc := 53) (v := 10) dX6_atMost_53 (by decide) ?_
      refine v_iadd X (pc := 55) dX6_atMost_55 ?_
      refine v_iload X (pc := 56) dX6_atMost_56 2 rfl ?_
      refine v_iadd X (pc := 58) dX6_atMost_58 ?_
      obtain ⟨g59, h⟩ := og h
      refine v_iald X (pc := 59) (v := ((μ 1) (Int32.toNatClampNeg ((x1 + 10) + q11)))) 1 rfl (ib_in g59) rfl dX6_atMost_59 ?_
      refine v_iload X (pc := 60) dX6_atMost_60 0 rfl ?_
      refine v_icmpge X (pc := 62) (tgt := 80) dX6_atMost_62 (by decide) (fun c => ?_) (fun c => ?_)
      · replace h := hp c h
        refine v_iload X (pc := 80) dX6_atMost_80 0 rfl ?_
        refine v_istore X (pc := 82) (L2 := [(8, .int x4), (7, .int q20), (6, .int q11), (5, .int q2), (0, .ref (a 0)), (1, .int x1), (2, .int x2), (3, .int (b2i x3)), (4, .int x4)]) dX6_atMost_82 (by decide) rfl ?_
        refine v_aload_n X (pc := 84) dX6_atMost_84 rfl 4 rfl ?_
        refine v_get X (pc := 85) (v := .ref (a 1)) uw6 0 rfl rfl 0 (by decide) q_668 rfl rfl dX6_atMost_85 ?_
        refine v_iload_n X (pc := 88) dX6_atMost_88 rfl 5 rfl ?_
        refine v_iconst X (pc := 89) (v := 4) dX6_atMost_89 (by decide) ?_
        refine v_iadd X (pc := 90) dX6_atMost_90 ?_
        refine v_iload X (pc := 91) dX6_atMost_91 1 rfl ?_
        refine v_iadd X (pc := 93) dX6_atMost_93 ?_
        obtain ⟨g94, h⟩ := og h
        refine v_iald X (pc := 94) (v := ((μ 1) (Int32.toNatClampNeg ((x1 + 4) + q20)))) 1 rfl (ib_in g94) rfl dX6_atMost_94 ?_
        refine v_aload_n X (pc := 95) dX6_atMost_95 rfl 4 rfl ?_
        refine v_get X (pc := 96) (v := .ref (a 1)) uw6 0 rfl rfl 0 (by decide) q_668 rfl rfl dX6_atMost_96 ?_
        refine v_iload_n X (pc := 99) dX6_atMost_99 rfl 5 rfl ?_
        refine v_bipush X (pc := 100) (v := 10) dX6_atMost_100 (by decide) ?_
        refine v_iadd X (pc := 102) dX6_atMost_102 ?_
        refine v_iload X (pc := 103) dX6_atMost_103 1 rfl ?_
        refine v_iadd X (pc := 105) dX6_atMost_105 ?_
        obtain ⟨g106, h⟩ := og h
        refine v_iald X (pc := 106) (v := ((μ 1) (Int32.toNatClampNeg ((x1 + 10) + q20)))) 1 rfl (ib_in g106) rfl dX6_atMost_106 ?_
        refine v_isub X (pc := 107) dX6_atMost_107 ?_
        refine v_istore X (pc := 108) (L2 := [(9, .int (((μ 1) (Int32.toNatClampNeg ((x1 + 4) + q20))) - ((μ 1) (Int32.toNatClampNeg ((x1 + 10) + q20))))), (8, .int x4), (7, .int q20), (6, .int q11), (5, .int q2), (0, .ref (a 0)), (1, .int x1), (2, .int x2), (3, .int (b2i x3)), (4, .int x4)]) dX6_atMost_108 (by decide) rfl ?_
        refine v_iload X (pc := 110) dX6_atMost_110 2 rfl ?_
        refine v_ifeq X (pc := 112) (tgt := 127) dX6_atMost_112 (by decide) (fun c => ?_) (fun c => ?_)
        · replace h := hp c h
          refine v_iload X (pc := 127) dX6_atMost_127 1 rfl ?_
          replace h := oi h
          subst h
          exact v_iret X (pc := 129) F dX6_atMost_129
        · replace h := hn c h
          refine v_iload X (pc := 115) dX6_atMost_115 0 rfl ?_
          refine v_iload X (pc := 117) dX6_atMost_117 1 rfl ?_
          refine v_icmpge X (pc := 119) (tgt := 127) dX6_atMost_119 (by decide) (fun c => ?_) (fun c => ?_)
          · replace h := hp c h
            refine v_iload X (pc := 127) dX6_atMost_127 1 rfl ?_
            replace h := oi h
            subst h
            exact v_iret X (pc := 129) F dX6_atMost_129
          · replace h := hn c h
            refine v_iload X (pc := 122) dX6_atMost_122 0 rfl ?_
            refine v_goto X (pc := 124) (tgt := 129) dX6_atMost_124 (by decide) ?_
            replace h := oi h
            subst h
            exact v_iret X (pc := 129) F dX6_atMost_129
      · replace h := hn c h
        refine v_aload_n X (pc := 65) dX6_atMost_65 rfl 4 rfl ?_
        refine v_get X (pc := 66) (v := .ref (a 1)) uw6 0 rfl rfl 0 (by decide) q_668 rfl rfl dX6_atMost_66 ?_
        refine v_iload_n X (pc := 69) dX6_atMost_69 rfl 5 rfl ?_
        refine v_bipush X (pc := 70) (v := 10) dX6_atMost_70 (by decide) ?_
        refine v_iadd X (pc := 72) dX6_atMost_72 ?_
        refine v_iload X (pc := 73) dX6_atMost_73 2 rfl ?_
        refine v_iadd X (pc := 75) dX6_atMost_75 ?_
        obtain ⟨g76, h⟩ := og h
        refine v_iald X (pc := 76) (v := ((μ 1) (Int32.toNatClampNeg ((x1 + 10) + q11)))) 1 rfl (ib_in g76) rfl dX6_atMost_76 ?_
        refine v_goto X (pc := 77) (tgt := 82) dX6_atMost_77 (by decide) ?_
        refine v_istore X (pc := 82) (L2 := [(8, .int ((μ 1) (Int32.toNatClampNeg ((x1 + 10) + q11)))), (7, .int q20), (6, .int q11), (5, .int q2), (0, .ref (a 0)), (1, .int x1), (2, .int x2), (3, .int (b2i x3)), (4, .int x4)]) dX6_atMost_82 (by decide) rfl ?_
        refine v_aload_n X (pc := 84) dX6_atMost_84 rfl 4 rfl ?_
        refine v_get X (pc := 85) (v := .ref (a 1)) uw6 0 rfl rfl 0 (by decide) q_668 rfl rfl dX6_atMost_85 ?_
        refine v_iload_n X (pc := 88) dX6_atMost_88 rfl 5 rfl ?_
        refine v_iconst X (pc := 89) (v := 4) dX6_atMost_89 (by decide) ?_
        refine v_iadd X (pc := 90) dX6_atMost_90 ?_
        refine v_iload X (pc := 91) dX6_atMost_91 1 rfl ?_
        refine v_iadd X (pc := 93) dX6_atMost_93 ?_
        obtain ⟨g94, h⟩ := og h
        refine v_iald X (pc := 94) (v := ((μ 1) (Int32.toNatClampNeg ((x1 + 4) + q20)))) 1 rfl (ib_in g94) rfl dX6_atMost_94 ?_
        refine v_aload_n X (pc := 95) dX6_atMost_95 rfl 4 rfl ?_
        refine v_get X (pc := 96) (v := .ref (a 1)) uw6 0 rfl rfl 0 (by decide) q_668 rfl rfl dX6_atMost_96 ?_
        refine v_iload_n X (pc := 99) dX6_atMost_99 rfl 5 rfl ?_
        refine v_bipush X (pc := 100) (v := 10) dX6_atMost_100 (by decide) ?_
        refine v_iadd X (pc := 102) dX6_atMost_102 ?_
        refine v_iload X (pc := 103) dX6_atMost_103 1 rfl ?_
        refine v_iadd X (pc := 105) dX6_atMost_105 ?_
        obtain ⟨g106, h⟩ := og h
        refine v_iald X (pc := 106) (v := ((μ 1) (Int32.toNatClampNeg ((x1 + 10) + q20)))) 1 rfl (ib_in g106) rfl dX6_atMost_106 ?_
        refine v_isub X (pc := 107) dX6_atMost_107 ?_
        refine v_istore X (pc := 108) (L2 := [(9, .int (((μ 1) (Int32.toNatClampNeg ((x1 + 4) + q20))) - ((μ 1) (Int32.toNatClampNeg ((x1 + 10) + q20))))), (8, .int ((μ 1) (Int32.toNatClampNeg ((x1 + 10) + q11)))), (7, .int q20), (6, .int q11), (5, .int q2), (0, .ref (a 0)), (1, .int x1), (2, .int x2), (3, .int (b2i x3)), (4, .int x4)]) dX6_atMost_108 (by decide) rfl ?_
        refine v_iload X (pc := 110) dX6_atMost_110 2 rfl ?_
        refine v_ifeq X (pc := 112) (tgt := 127) dX6_atMost_112 (by decide) (fun c => ?_) (fun c => ?_)
        · replace h := hp c h
          refine v_iload X (pc := 127) dX6_atMost_127 1 rfl ?_
          replace h := oi h
          subst h
          exact v_iret X (pc := 129) F dX6_atMost_129
        · replace h := hn c h
          refine v_iload X (pc := 115) dX6_atMost_115 0 rfl ?_
          refine v_iload X (pc := 117) dX6_atMost_117 1 rfl ?_
          refine v_icmpge X (pc := 119) (tgt := 127) dX6_atMost_119 (by decide) (fun c => ?_) (fun c => ?_)
          · replace h := hp c h
            refine v_iload X (pc := 127) dX6_atMost_127 1 rfl ?_
            replace h := oi h
            subst h
            exact v_iret X (pc := 129) F dX6_atMost_129
          · replace h := hn c h
            refine v_iload X (pc := 122) dX6_atMost_122 0 rfl ?_
            refine v_goto X (pc := 124) (tgt := 129) dX6_atMost_124 (by decide) ?_
            replace h := oi h
            subst h
            exact v_iret X (pc := 129) F dX6_atMost_129
  · replace h := hn c h
    refine v_iconst X (pc := 35) (v := 0) dX6_atMost_35 (by decide) ?_
    refine v_goto X (pc := 36) (tgt := 41) dX6_atMost_36 (by decide) ?_
    refine v_istore X (pc := 41) (L2 := [(8, .int 0), (7, .int q20), (6, .int q11), (5, .int q2), (0, .ref (a 0)), (1, .int x1), (2, .int x2), (3, .int (b2i x3)), (4, .int x4)]) dX6_atMost_41 (by decide) rfl ?_
    refine v_iload X (pc := 43) dX6_atMost_43 2 rfl ?_
    refine v_ifeq X (pc := 45) (tgt := 80) dX6_atMost_45 (by decide) (fun c => ?_) (fun c => ?_)
    · replace h := hp c h
      refine v_iload X (pc := 80) dX6_atMost_80 0 rfl ?_
      refine v_istore X (pc := 82) (L2 := [(8, .int 0), (7, .int q20), (6, .int q11), (5, .int q2), (0, .ref (a 0)), (1, .int x1), (2, .int x2), (3, .int (b2i x3)), (4, .int x4)]) dX6_atMost_82 (by decide) rfl ?_
      refine v_aload_n X (pc := 84) dX6_atMost_84 rfl 4 rfl ?_
      refine v_get X (pc := 85) (v := .ref (a 1)) uw6 0 rfl rfl 0 (by decide) q_668 rfl rfl dX6_atMost_85 ?_
      refine v_iload_n X (pc := 88) dX6_atMost_88 rfl 5 rfl ?_
      refine v_iconst X (pc := 89) (v := 4) dX6_atMost_89 (by decide) ?_
      refine v_iadd X (pc := 90) dX6_atMost_90 ?_
      refine v_iload X (pc := 91) dX6_atMost_91 1 rfl ?_
      refine v_iadd X (pc := 93) dX6_atMost_93 ?_
      obtain ⟨g94, h⟩ := og h
      refine v_iald X (pc := 94) (v := ((μ 1) (Int32.toNatClampNeg ((x1 + 4) + q20)))) 1 rfl (ib_in g94) rfl dX6_atMost_94 ?_
      refine v_aload_n X (pc := 95) dX6_atMost_95 rfl 4 rfl ?_
      refine v_get X (pc := 96) (v := .ref (a 1)) uw6 0 rfl rfl 0 (by decide) q_668 rfl rfl dX6_atMost_96 ?_
      refine v_iload_n X (pc := 99) dX6_atMost_99 rfl 5 rfl ?_
      refine v_bipush X (pc := 100) (v := 10) dX6_atMost_100 (by decide) ?_
      refine v_iadd X (pc := 102) dX6_atMost_102 ?_
      refine v_iload X (pc := 103) dX6_atMost_103 1 rfl ?_
      refine v_iadd X (pc := 105) dX6_atMost_105 ?_
      obtain ⟨g106, h⟩ := og h
      refine v_iald X (pc := 106) (v := ((μ 1) (Int32.toNatClampNeg ((x1 + 10) + q20)))) 1 rfl (ib_in g106) rfl dX6_atMost_106 ?_
      refine v_isub X (pc := 107) dX6_atMost_107 ?_
      refine v_istore X (pc := 108) (L2 := [(9, .int (((μ 1) (Int32.toNatClampNeg ((x1 + 4) + q20))) - ((μ 1) (Int32.toNatClampNeg ((x1 + 10) + q20))))), (8, .int 0), (7, .int q20), (6, .int q11), (5, .int q2), (0, .ref (a 0)), (1, .int x1), (2, .int x2), (3, .int (b2i x3)), (4, .int x4)]) dX6_atMost_108 (by decide) rfl ?_
      refine v_iload X (pc := 110) dX6_atMost_110 2 rfl ?_
      refine v_ifeq X (pc := 112) (tgt := 127) dX6_atMost_112 (by decide) (fun c => ?_) (fun c => ?_)
      · replace h := hp c h
        refine v_iload X (pc := 127) dX6_atMost_127 1 rfl ?_
        replace h := oi h
        subst h
        exact v_iret X (pc := 129) F dX6_atMost_129
      · replace h := hn c h
        refine v_iload X (pc := 115) dX6_atMost_115 0 rfl ?_
        refine v_iload X (pc := 117) dX6_atMost_117 1 rfl ?_
        refine v_icmpge X (pc := 119) (tgt := 127) dX6_atMost_119 (by decide) (fun c => ?_) (fun c => ?_)
        · replace h := hp c h
          refine v_iload X (pc := 127) dX6_atMost_127 1 rfl ?_
          replace h := oi h
          subst h
          exact v_iret X (pc := 129) F dX6_atMost_129
        · replace h := hn c h
          refine v_iload X (pc := 122) dX6_atMost_122 0 rfl ?_
          refine v_goto X (pc := 124) (tgt := 129) dX6_atMost_124 (by decide) ?_
          replace h := oi h
          subst h
          exact v_iret X (pc := 129) F dX6_atMost_129
    · replace h := hn c h
      refine v_aload_n X (pc := 48) dX6_atMost_48 rfl 4 rfl ?_
      refine v_get X (pc := 49) (v := .ref (a 1)) uw6 0 rfl rfl 0 (by decide) q_668 rfl rfl dX6_atMost_49 ?_
      refine v_iload_n X (pc := 52) dX6_atMost_52 rfl 5 rfl ?_
      refine v_bipush X (pc := 53) (v := 10) dX6_atMost_53 (by decide) ?_
      refine v_iadd X (pc := 55) dX6_atMost_55 ?_
      refine v_iload X (pc := 56) dX6_atMost_56 2 rfl ?_
      refine v_iadd X (pc := 58) dX6_atMost_58 ?_
      obtain ⟨g59, h⟩ := og h
      refine v_iald X (pc := 59) (v := ((μ 1) (Int32.toNatClampNeg ((x1 + 10) + q11)))) 1 rfl (ib_in g59) rfl dX6_atMost_59 ?_
      refine v_iload X (pc := 60) dX6_atMost_60 0 rfl ?_
      refine v_icmpge X (pc := 62) (tgt := 80) dX6_atMost_62 (by decide) (fun c => ?_) (fun c => ?_)
      · replace h := hp c h
        refine v_iload X (pc := 80) dX6_atMost_80 0 rfl ?_
        refine v_istore X (pc := 82) (L2 := [(8, .int 0), (7, .int q20), (6, .int q11), (5, .int q2), (0, .ref (a 0)), (1, .int x1), (2, .int x2), (3, .int (b2i x3)), (4, .int x4)]) dX6_atMost_82 (by decide) rfl ?_
        refine v_aload_n X (pc := 84) dX6_atMost_84 rfl 4 rfl ?_
        refine v_get X (pc := 85) (v := .ref (a 1)) uw6 0 rfl rfl 0 (by decide) q_668 rfl rfl dX6_atMost_85 ?_
        refine v_iload_n X (pc := 88) dX6_atMost_88 rfl 5 rfl ?_
        refine v_iconst X (pc := 89) (v := 4) dX6_atMost_89 (by decide) ?_
        refine v_iadd X (pc := 90) dX6_atMost_90 ?_
        refine v_iload X (pc := 91) dX6_atMost_91 1 rfl ?_
        refine v_iadd X (pc := 93) dX6_atMost_93 ?_
        obtain ⟨g94, h⟩ := og h
        refine v_iald X (pc := 94) (v := ((μ 1) (Int32.toNatClampNeg ((x1 + 4) + q20)))) 1 rfl (ib_in g94) rfl dX6_atMost_94 ?_
        refine v_aload_n X (pc := 95) dX6_atMost_95 rfl 4 rfl ?_
        refine v_get X (pc := 96) (v := .ref (a 1)) uw6 0 rfl rfl 0 (by decide) q_668 rfl rfl dX6_atMost_96 ?_
        refine v_iload_n X (pc := 99) dX6_atMost_99 rfl 5 rfl ?_
        refine v_bipush X (pc := 100) (v := 10) dX6_atMost_100 (by decide) ?_
        refine v_iadd X (pc := 102) dX6_atMost_102 ?_
        refine v_iload X (pc := 103) dX6_atMost_103 1 rfl ?_
        refine v_iadd X (pc := 105) dX6_atMost_105 ?_
        obtain ⟨g106, h⟩ := og h
        refine v_iald X (pc := 106) (v := ((μ 1) (Int32.toNatClampNeg ((x1 + 10) + q20)))) 1 rfl (ib_in g106) rfl dX6_atMost_106 ?_
        refine v_isub X (pc := 107) dX6_atMost_107 ?_
        refine v_istore X (pc := 108) (L2 := [(9, .int (((μ 1) (Int32.toNatClampNeg ((x1 + 4) + q20))) - ((μ 1) (Int32.toNatClampNeg ((x1 + 10) + q20))))), (8, .int 0), (7, .int q20), (6, .int q11), (5, .int q2), (0, .ref (a 0)), (1, .int x1), (2, .int x2), (3, .int (b2i x3)), (4, .int x4)]) dX6_atMost_108 (by decide) rfl ?_
        refine v_iload X (pc := 110) dX6_atMost_110 2 rfl ?_
        refine v_ifeq X (pc := 112) (tgt := 127) dX6_atMost_112 (by decide) (fun c => ?_) (fun c => ?_)
        · replace h := hp c h
          refine v_iload X (pc := 127) dX6_atMost_127 1 rfl ?_
          replace h := oi h
          subst h
          exact v_iret X (pc := 129) F dX6_atMost_129
        · replace h := hn c h
          refine v_iload X (pc := 115) dX6_atMost_115 0 rfl ?_
          refine v_iload X (pc := 117) dX6_atMost_117 1 rfl ?_
          refine v_icmpge X (pc := 119) (tgt := 127) dX6_atMost_119 (by decide) (fun c => ?_) (fun c => ?_)
          · replace h := hp c h
            refine v_iload X (pc := 127) dX6_atMost_127 1 rfl ?_
            replace h := oi h
            subst h
            exact v_iret X (pc := 129) F dX6_atMost_129
          · replace h := hn c h
            refine v_iload X (pc := 122) dX6_atMost_122 0 rfl ?_
            refine v_goto X (pc := 124) (tgt := 129) dX6_atMost_124 (by decide) ?_
            replace h := oi h
            subst h
            exact v_iret X (pc := 129) F dX6_atMost_129
      · replace h := hn c h
        refine v_aload_n X (pc := 65) dX6_atMost_65 rfl 4 rfl ?_
        refine v_get X (pc := 66) (v := .ref (a 1)) uw6 0 rfl rfl 0 (by decide) q_668 rfl rfl dX6_atMost_66 ?_
        refine v_iload_n X (pc := 69) dX6_atMost_69 rfl 5 rfl ?_
        refine v_bipush X (pc := 70) (v := 10) dX6_atMost_70 (by decide) ?_
        refine v_iadd X (pc := 72) dX6_atMost_72 ?_
        refine v_iload X (pc := 73) dX6_atMost_73 2 rfl ?_
        refine v_iadd X (pc := 75) dX6_atMost_75 ?_
        obtain ⟨g76, h⟩ := og h
        refine v_iald X (pc := 76) (v := ((μ 1) (Int32.toNatClampNeg ((x1 + 10) + q11)))) 1 rfl (ib_in g76) rfl dX6_atMost_76 ?_
        refine v_goto X (pc := 77) (tgt := 82) dX6_atMost_77 (by decide) ?_
        refine v_istore X (pc := 82) (L2 := [(8, .int ((μ 1) (Int32.toNatClampNeg ((x1 + 10) + q11)))), (7, .int q20), (6, .int q11), (5, .int q2), (0, .ref (a 0)), (1, .int x1), (2, .int x2), (3, .int (b2i x3)), (4, .int x4)]) dX6_atMost_82 (by decide) rfl ?_
        refine v_aload_n X (pc := 84) dX6_atMost_84 rfl 4 rfl ?_
        refine v_get X (pc := 85) (v := .ref (a 1)) uw6 0 rfl rfl 0 (by decide) q_668 rfl rfl dX6_atMost_85 ?_
        refine v_iload_n X (pc := 88) dX6_atMost_88 rfl 5 rfl ?_
        refine v_iconst X (pc := 89) (v := 4) dX6_atMost_89 (by decide) ?_
        refine v_iadd X (pc := 90) dX6_atMost_90 ?_
        refine v_iload X (pc := 91) dX6_atMost_91 1 rfl ?_
        refine v_iadd X (pc := 93) dX6_atMost_93 ?_
        obtain ⟨g94, h⟩ := og h
        refine v_iald X (pc := 94) (v := ((μ 1) (Int32.toNatClampNeg ((x1 + 4) + q20)))) 1 rfl (ib_in g94) rfl dX6_atMost_94 ?_
        refine v_aload_n X (pc := 95) dX6_atMost_95 rfl 4 rfl ?_
        refine v_get X (pc := 96) (v := .ref (a 1)) uw6 0 rfl rfl 0 (by decide) q_668 rfl rfl dX6_atMost_96 ?_
        refine v_iload_n X (pc := 99) dX6_atMost_99 rfl 5 rfl ?_
        refine v_bipush X (pc := 100) (v := 10) dX6_atMost_100 (by decide) ?_
        refine v_iadd X (pc := 102) dX6_atMost_102 ?_
        refine v_iload X (pc := 103) dX6_atMost_103 1 rfl ?_
        refine v_iadd X (pc := 105) dX6_atMost_105 ?_
        obtain ⟨g106, h⟩ := og h
        refine v_iald X (pc := 106) (v := ((μ 1) (Int32.toNatClampNeg ((x1 + 10) + q20)))) 1 rfl (ib_in g106) rfl dX6_atMost_106 ?_
        refine v_isub X (pc := 107) dX6_atMost_107 ?_
        refine v_istore X (pc := 108) (L2 := [(9, .int (((μ 1) (Int32.toNatClampNeg ((x1 + 4) + q20))) - ((μ 1) (Int32.toNatClampNeg ((x1 + 10) + q20))))), (8, .int ((μ 1) (Int32.toNatClampNeg ((x1 + 10) + q11)))), (7, .int q20), (6, .int q11), (5, .int q2), (0, .ref (a 0)), (1, .int x1), (2, .int x2), (3, .int (b2i x3)), (4, .int x4)]) dX6_atMost_108 (by decide) rfl ?_
        refine v_iload X (pc := 110) dX6_atMost_110 2 rfl ?_
        refine v_ifeq X (pc := 112) (tgt := 127) dX6_atMost_112 (by decide) (fun c => ?_) (fun c => ?_)
        · replace h := hp c h
          refine v_iload X (pc := 127) dX6_atMost_127 1 rfl ?_
          replace h := oi h
          subst h
          exact v_iret X (pc := 129) F dX6_atMost_129
        · replace h := hn c h
          refine v_iload X (pc := 115) dX6_atMost_115 0 rfl ?_
          refine v_iload X (pc := 117) dX6_atMost_117 1 rfl ?_
          refine v_icmpge X (pc := 119) (tgt := 127) dX6_atMost_119 (by decide) (fun c => ?_) (fun c => ?_)
          · replace h := hp c h
            refine v_iload X (pc := 127) dX6_atMost_127 1 rfl ?_
            replace h := oi h
            subst h
            exact v_iret X (pc := 129) F dX6_atMost_129
          · replace h := hn c h
            refine v_iload X (pc := 122) dX6_atMost_122 0 rfl ?_
            refine v_goto X (pc := 124) (tgt := 129) dX6_atMost_124 (by decide) ?_
            replace h := oi h
            subst h
            exact v_iret X (pc := 129) F dX6_atMost_129
theorem cw_X6_atMost : CwB yX6_atMost cX6_atMost 10 (Option.some FieldType.int) 4 := ⟨q_830, q_57, by decide, by decide, by decide +kernel⟩
def f_X6_hour_I83 (x1 : Int32) (x2 : Int32) (x3 : Int32) (x4 : Int32) : Nat → Blk → Int32 → Option (Blk)
  | 0, _, _ => none
  | n + 1, μ, x5 =>
    (if 4 ≤ x5 then some μ else (if ib (x4 + 3) 2048 = true then (if ((μ 1) (Int32.toNatClampNeg (x4 + 3))) = 0 then (if ib (((x4 + 4) + (4 * x5)) + 1) 2048 = true then lt (upR μ 1 (upd (μ 1) (Int32.toNatClampNeg (((x4 + 4) + (4 * x5)) + 1)) 0)) fun m117 => f_X6_hour_I83 x1 x2 x3 x4 n m117 (x5 + 1) else none) else some μ) else none))
set_option maxHeartbeats 4000000 in
set_option maxRecDepth 100000 in
theorem v_X6_hour_I83 {x : Ctx} (X : Cx x RX6 cX6_hour 6 1 21) (a : Nat → Nat) (x1 : Int32) (x2 : Int32) (x3 : Int32) (x4 : Int32) : ∀ (n : Nat) (μ : Blk) (x5 : Int32) {res : Blk}, f_X6_hour_I83 x1 x2 x3 x4 n μ x5 = some res → V x (wM x.g a res) [(0, .ref (a 0)), (1, .int x1), (2, .int x2), (3, .int x3)] [] 124 → V x (wM x.g a μ) [(0, .ref (a 0)), (1, .int x1), (2, .int x2), (3, .int x3), (4, .int x4), (5, .int x5)] [] 83 := by
  intro n
  induction n with
  | zero =>
    intro μ x5 res h F
    rw [f_X6_hour_I83] at h
    cases h
  | succ n ih =>
    intro μ x5 res h F
    rw [f_X6_hour_I83] at h
    refine v_iload X (pc := 83) dX6_hour_83 5 rfl ?_
    refine v_iconst X (pc := 85) (v := 4) dX6_hour_85 (by decide) ?_
    refine v_icmpge X (pc := 86) (tgt := 124) dX6_hour_86 (by decide) (fun c => ?_) (fun c => ?_)
    · replace h := hp c h
      replace h := oi h
      subst h
      refine v_sub (L2 := [(0, .ref (a 0)), (1, .int x1), (2, .int x2), (3, .int x3)]) [0, 1, 2, 3] rfl ?_
      exact F
    · replace h := hn c h
      refine v_aload_n X (pc := 89) dX6_hour_89 rfl 0 rfl ?_
      refine v_get X (pc := 90) (v := .ref (a 1)) uw6 0 rfl rfl 0 (by decide) q_668 rfl rfl dX6_hour_90 ?_
      refine v_iload X (pc := 93) dX6_hour_93 4 rfl ?_
      refine v_iconst X (pc := 95) (v := 3) dX6_hour_95 (by decide) ?_
      refine v_iadd X (pc := 96) dX6_hour_96 ?_
      obtain ⟨g97, h⟩ := og h
      refine v_iald X (pc := 97) (v := ((μ 1) (Int32.toNatClampNeg (x4 + 3)))) 1 rfl (ib_in g97) rfl dX6_hour_97 ?_
      refine v_ifne X (pc := 98) (tgt := 124) dX6_hour_98 (by decide) (fun c => ?_) (fun c => ?_)
      · replace h := hn c h
        replace h := oi h
        subst h
        refine v_sub (L2 := [(0, .ref (a 0)), (1, .int x1), (2, .int x2), (3, .int x3)]) [0, 1, 2, 3] rfl ?_
        exact F
      · replace h := hp c h
        refine v_aload_n X (pc := 101) dX6_hour_101 rfl 0 rfl ?_
        refine v_get X (pc := 102) (v := .ref (a 1)) uw6 0 rfl rfl 0 (by decide) q_668 rfl rfl dX6_hour_102 ?_
        refine v_iload X (pc := 105) dX6_hour_105 4 rfl ?_
        refine v_iconst X (pc := 107) (v := 4) dX6_hour_107 (by decide) ?_
        refine v_iadd X (pc := 108) dX6_hour_108 ?_
        refine v_iconst X (pc := 109) (v := 4) dX6_hour_109 (by decide) ?_
        refine v_iload X (pc := 110) dX6_hour_110 5 rfl ?_
        refine v_imul X (pc := 112) dX6_hour_112 ?_
        refine v_iadd X (pc := 113) dX6_hour_113 ?_
        refine v_iconst X (pc := 114) (v := 1) dX6_hour_114 (by decide) ?_
        refine v_iadd X (pc := 115) dX6_hour_115 ?_
        refine v_iconst X (pc := 116) (v := 0) dX6_hour_116 (by decide) ?_
        obtain ⟨g117, h⟩ := og h
        obtain ⟨m117, em117, h⟩ := lts h
        refine v_iast X (pc := 117) (w' := (wM x.g a m117)) 1 rfl (ib_in g117) (by rw [← em117]; rfl) dX6_hour_117 ?_
        refine v_iinc X (pc := 118) (v := (x5 + 1)) (L2 := [(5, .int (x5 + 1)), (0, .ref (a 0)), (1, .int x1), (2, .int x2), (3, .int x3), (4, .int x4)]) dX6_hour_118 5 rfl (by first | rfl | decide) (by decide) rfl ?_
        refine v_goto X (pc := 121) (tgt := 83) dX6_hour_121 (by decide) ?_
        refine v_sub (L2 := [(0, .ref (a 0)), (1, .int x1), (2, .int x2), (3, .int x3), (4, .int x4), (5, .int (x5 + 1))]) [1, 2, 3, 4, 5, 0] rfl ?_
        exact ih m117 (x5 + 1) h F
def f_X6_hour_L16 (x1 : Int32) : Nat → Blk → Int32 → Int32 → Option (Int32 × Blk)
  | 0, _, _, _ => none
  | n + 1, μ, x2, x3 =>
    (if ib (x1 + 3) 2048 = true then (if ((μ 1) (Int32.toNatClampNeg (x1 + 3))) ≤ x3 then some (x2, μ) else lt (f_X6_place x1 x3) fun q30 => (if ib (q30 + 3) 2048 = true then (if ((μ 1) (Int32.toNatClampNeg (q30 + 3))) ≤ 0 then f_X6_hour_L16 x1 n μ x2 (x3 + 1) else (if ib (q30 + 3) 2048 = true then (if ib (q30 + 3) 2048 = true then lt (upR μ 1 (upd (μ 1) (Int32.toNatClampNeg (q30 + 3)) (((μ 1) (Int32.toNatClampNeg (q30 + 3))) - 1))) fun m59 => (if ib (q30 + 3) 2048 = true then (if ((m59 1) (Int32.toNatClampNeg (q30 + 3))) = 0 then (f_X6_hour_I83 x1 (x2 + 1) x3 q30 FU m59 0).bind fun q83 => f_X6_hour_L16 x1 n q83 (x2 + 1) (x3 + 1) else (f_X6_hour_I83 x1 (x2 + 0) x3 q30 FU m59 0).bind fun q83 => f_X6_hour_L16 x1 n q83 (x2 + 0) (x3 + 1)) else none) else none) else none)) else none)) else none)
set_option maxHeartbeats 4000000 in
set_option maxRecDepth 100000 in
theorem v_X6_hour_L16 {x : Ctx} (X : Cx x RX6 cX6_hour 6 1 21) (a : Nat → Nat) (x1 : Int32) : ∀ (n : Nat) (μ : Blk) (x2 : Int32) (x3 : Int32) {res : Int32 × Blk}, f_X6_hour_L16 x1 n μ x2 x3 = some res → Fn x (Option.some FieldType.int) (some (.int res.1)) (wM x.g a res.2) → V x (wM x.g a μ) [(0, .ref (a 0)), (1, .int x1), (2, .int x2), (3, .int x3)] [] 16 := by
  intro n
  induction n with
  | zero =>
    intro μ x2 x3 res h F
    rw [f_X6_hour_L16] at h
    cases h
  | succ n ih =>
    intro μ x2 x3 res h F
    rw [f_X6_hour_L16] at h
    refine v_iload_n X (pc := 16) dX6_hour_16 rfl 3 rfl ?_
    refine v_aload_n X (pc := 17) dX6_hour_17 rfl 0 rfl ?_
    refine v_get X (pc := 18) (v := .ref (a 1)) uw6 0 rfl rfl 0 (by decide) q_668 rfl rfl dX6_hour_18 ?_
    refine v_iload_n X (pc := 21) dX6_hour_21 rfl 1 rfl ?_
    refine v_iconst X (pc := 22) (v := 3) dX6_hour_22 (by decide) ?_
    refine v_iadd X (pc := 23) dX6_hour_23 ?_
    obtain ⟨g24, h⟩ := og h
    refine v_iald X (pc := 24) (v := ((μ 1) (Int32.toNatClampNeg (x1 + 3)))) 1 rfl (ib_in g24) rfl dX6_hour_24 ?_
    refine v_icmpge X (pc := 25) (tgt := 130) dX6_hour_25 (by decide) (fun c => ?_) (fun c => ?_)
    · replace h := hp c h
      refine v_iload_n X (pc := 130) dX6_hour_130 rfl 2 rfl ?_
      replace h := oi h
      subst h
      exact v_iret X (pc := 131) F dX6_hour_131
    · replace h := hn c h
      refine v_iload_n X (pc := 28) dX6_hour_28 rfl 1 rfl ?_
      refine v_iload_n X (pc := 29) dX6_hour_29 rfl 3 rfl ?_
      obtain ⟨q30, e30, h⟩ := lts h
      refine v_callS X (pc := 30) (st1 := [.int q30]) (w' := (wM x.g a μ)) [.int x1, .int x3] [] (c_X6_place x.l x.g  x1 x3 e30) rfl rfl cw_X6_place q_721 q_722 ⟨by decide, by decide⟩ Fr.nil rfl (Nat.le_of_ble_eq_true rfl) dX6_hour_30 ?_
      refine v_istore X (pc := 33) (L2 := [(4, .int q30), (0, .ref (a 0)), (1, .int x1), (2, .int x2), (3, .int x3)]) dX6_hour_33 (by decide) rfl ?_
      refine v_aload_n X (pc := 35) dX6_hour_35 rfl 1 rfl ?_
      refine v_get X (pc := 36) (v := .ref (a 1)) uw6 0 rfl rfl 0 (by decide) q_668 rfl rfl dX6_hour_36 ?_
      refine v_iload X (pc := 39) dX6_hour_39 0 rfl ?_
      refine v_iconst X (pc := 41) (v := 3) dX6_hour_41 (by decide) ?_
      refine v_iadd X (pc := 42) dX6_hour_42 ?_
      obtain ⟨g43, h⟩ := og h
      refine v_iald X (pc := 43) (v := ((μ 1) (Int32.toNatClampNeg (q30 + 3)))) 1 rfl (ib_in g43) rfl dX6_hour_43 ?_
      refine v_ifle X (pc := 44) (tgt := 124) dX6_hour_44 (by decide) (fun c => ?_) (fun c => ?_)
      · replace h := hp c h
        refine v_iinc X (pc := 124) (v := (x3 + 1)) (L2 := [(3, .int (x3 + 1)), (4, .int q30), (0, .ref (a 0)), (1, .int x1), (2, .int x2)]) dX6_hour_124 4 rfl (by first | rfl | decide) (by decide) rfl ?_
        refine v_goto X (pc := 127) (tgt := 16) dX6_hour_127 (by decide) ?_
        refine v_sub (L2 := [(0, .ref (a 0)), (1, .int x1), (2, .int x2), (3, .int (x3 + 1))]) [2, 3, 4, 0] rfl ?_
        exact ih μ x2 (x3 + 1) h F
      · replace h := hn c h
        refine v_aload_n X (pc := 47) dX6_hour_47 rfl 1 rfl ?_
        refine v_get X (pc := 48) (v := .ref (a 1)) uw6 0 rfl rfl 0 (by decide) q_668 rfl rfl dX6_hour_48 ?_
        refine v_iload X (pc := 51) dX6_hour_51 0 rfl ?_
        refine v_iconst X (pc := 53) (v := 3) dX6_hour_53 (by decide) ?_
        refine v_iadd X (pc := 54) dX6_hour_54 ?_
        refine v_dup2 X (pc := 55) dX6_hour_55 rfl rfl ?_
        obtain ⟨g56, h⟩ := og h
        refine v_iald X (pc := 56) (v := ((μ 1) (Int32.toNatClampNeg (q30 + 3)))) 1 rfl (ib_in g56) rfl dX6_hour_56 ?_
        refine v_iconst X (pc := 57) (v := 1) dX6_hour_57 (by decide) ?_
        refine v_isub X (pc := 58) dX6_hour_58 ?_
        obtain ⟨g59, h⟩ := og h
        obtain ⟨m59, em59, h⟩ := lts h
        refine v_iast X (pc := 59) (w' := (wM x.g a m59)) 1 rfl (ib_in g59) (by rw [← em59]; rfl) dX6_hour_59 ?_
        refine v_iload_n X (pc := 60) dX6_hour_60 rfl 3 rfl ?_
        refine v_aload_n X (pc := 61) dX6_hour_61 rfl 1 rfl ?_
        refine v_get X (pc := 62) (v := .ref (a 1)) uw6 0 rfl rfl 0 (by decide) q_668 rfl rfl dX6_hour_62 ?_
        refine v_iload X (pc := 65) dX6_hour_65 0 rfl ?_
        refine v_iconst X (pc := 67) (v := 3) dX6_hour_67 (by decide) ?_
        refine v_iadd X (pc := 68) dX6_hour_68 ?_
        obtain ⟨g69, h⟩ := og h
        refine v_iald X (pc := 69) (v := ((m59 1) (Int32.toNatClampNeg (q30 + 3)))) 1 rfl (ib_in g69) rfl dX6_hour_69 ?_
        refine v_ifne X (pc := 70) (tgt := 77) dX6_hour_70 (by decide) (fun c => ?_) (fun c => ?_)
        · replace h := hn c h
          refine v_iconst X (pc := 77) (v := 0) dX6_hour_77 (by decide) ?_
          refine v_iadd X (pc := 78) dX6_hour_78 ?_
          refine v_istore_n X (pc := 79) (L2 := [(2, .int (x2 + 0)), (4, .int q30), (0, .ref (a 0)), (1, .int x1), (3, .int x3)]) dX6_hour_79 rfl (by decide) rfl ?_
          refine v_iconst X (pc := 80) (v := 0) dX6_hour_80 (by decide) ?_
          refine v_istore X (pc := 81) (L2 := [(5, .int 0), (2, .int (x2 + 0)), (4, .int q30), (0, .ref (a 0)), (1, .int x1), (3, .int x3)]) dX6_hour_81 (by decide) rfl ?_
          refine v_sub (L2 := [(0, .ref (a 0)), (1, .int x1), (2, .int (x2 + 0)), (3, .int x3), (4, .int q30), (5, .int 0)]) [3, 4, 1, 5, 2, 0] rfl ?_
          obtain ⟨q83, e83, h⟩ := ob h
          refine v_X6_hour_I83 X a x1 (x2 + 0) x3 q30 FU m59 0 e83 ?_
          refine v_iinc X (pc := 124) (v := (x3 + 1)) (L2 := [(3, .int (x3 + 1)), (0, .ref (a 0)), (1, .int x1), (2, .int (x2 + 0))]) dX6_hour_124 3 rfl (by first | rfl | decide) (by decide) rfl ?_
          refine v_goto X (pc := 127) (tgt := 16) dX6_hour_127 (by decide) ?_
          refine v_sub (L2 := [(0, .ref (a 0)), (1, .int x1), (2, .int (x2 + 0)), (3, .int (x3 + 1))]) [1, 2, 3, 0] rfl ?_
          exact ih q83 (x2 + 0) (x3 + 1) h F
        · replace h := hp c h
          refine v_iconst X (pc := 73) (v := 1) dX6_hour_73 (by decide) ?_
          refine v_goto X (pc := 74) (tgt := 78) dX6_hour_74 (by decide) ?_
          refine v_iadd X (pc := 78) dX6_hour_78 ?_
          refine v_istore_n X (pc := 79) (L2 := [(2, .int (x2 + 1)), (4, .int q30), (0, .ref (a 0)), (1, .int x1), (3, .int x3)]) dX6_hour_79 rfl (by decide) rfl ?_
          refine v_iconst X (pc := 80) (v := 0) dX6_hour_80 (by decide) ?_
          refine v_istore X (pc := 81) (L2 := [(5, .int 0), (2, .int (x2 + 1)), (4, .int q30), (0, .ref (a 0)), (1, .int x1), (3, .int x3)]) dX6_hour_81 (by decide) rfl ?_
          refine v_sub (L2 := [(0, .ref (a 0)), (1, .int x1), (2, .int (x2 + 1)), (3, .int x3), (4, .int q30), (5, .int 0)]) [3, 4, 1, 5, 2, 0] rfl ?_
          obtain ⟨q83, e83, h⟩ := ob h
          refine v_X6_hour_I83 X a x1 (x2 + 1) x3 q30 FU m59 0 e83 ?_
          refine v_iinc X (pc := 124) (v := (x3 + 1)) (L2 := [(3, .int (x3 + 1)), (0, .ref (a 0)), (1, .int x1), (2, .int (x2 + 1))]) dX6_hour_124 3 rfl (by first | rfl | decide) (by decide) rfl ?_
          refine v_goto X (pc := 127) (tgt := 16) dX6_hour_127 (by decide) ?_
          refine v_sub (L2 := [(0, .ref (a 0)), (1, .int x1), (2, .int (x2 + 1)), (3, .int (x3 + 1))]) [1, 2, 3, 0] rfl ?_
          exact ih q83 (x2 + 1) (x3 + 1) h F
def f_X6_hour (μ : Blk) (x1 : Int32) : Option (Int32 × Blk) :=
  (if ib (x1 + 2) 2048 = true then (if ib (x1 + 2) 2048 = true then lt (upR μ 1 (upd (μ 1) (Int32.toNatClampNeg (x1 + 2)) (((μ 1) (Int32.toNatClampNeg (x1 + 2))) + 1))) fun m11 => f_X6_hour_L16 x1 FU m11 0 0 else none) else none)
set_option maxHeartbeats 4000000 in
set_option maxRecDepth 100000 in
theorem c_X6_hour (l : Launch) (g : Gl) (a : Nat → Nat) (μ : Blk) (x1 : Int32) {res : Int32 × Blk} (h : f_X6_hour μ x1 = some res) : Ok l g yX6_hour cX6_hour 6 (Option.some FieldType.int) 1 21 [.ref (a 0), .int x1] (wM g a μ) (some (.int res.1)) (wM g a res.2) := by
  refine Ok.of RX6 (by decide) rfl (Nat.le_of_ble_eq_true rfl) (fun x hl hg X F => ?_)
  subst hg; subst hl
  rw [f_X6_hour] at h
  show V x (wM x.g a μ) [(0, .ref (a 0)), (1, .int x1)] [] 0
  refine v_aload_n X (pc := 0) dX6_hour_0 rfl 0 rfl ?_
  refine v_get X (pc := 1) (v := .ref (a 1)) uw6 0 rfl rfl 0 (by decide) q_668 rfl rfl dX6_hour_1 ?_
  refine v_iload_n X (pc := 4) dX6_hour_4 rfl 1 rfl ?_
  refine v_iconst X (pc := 5) (v := 2) dX6_hour_5 (by decide) ?_
  refine v_iadd X (pc := 6) dX6_hour_6 ?_
  refine v_dup2 X (pc := 7) dX6_hour_7 rfl rfl ?_
  obtain ⟨g8, h⟩ := og h
  refine v_iald X (pc := 8) (v := ((μ 1) (Int32.toNatClampNeg (x1 + 2)))) 1 rfl (ib_in g8) rfl dX6_hour_8 ?_
  refine v_iconst X (pc := 9) (v := 1) dX6_hour_9 (by decide) ?_
  refine v_iadd X (pc := 10) dX6_hour_10 ?_
  obtain ⟨g11, h⟩ := og h
  obtain ⟨m11, em11, h⟩ := lts h
  refine v_iast X (pc := 11) (w' := (wM x.g a m11)) 1 rfl (ib_in g11) (by rw [← em11]; rfl) dX6_hour_11 ?_
  refine v_iconst X (pc := 12) (v := 0) dX6_hour_12 (by decide) ?_
  refine v_istore_n X (pc := 13) (L2 := [(2, .int 0), (0, .ref (a 0)), (1, .int x1)]) dX6_hour_13 rfl (by decide) rfl ?_
  refine v_iconst X (pc := 14) (v := 0) dX6_hour_14 (by decide) ?_
  refine v_istore_n X (pc := 15) (L2 := [(3, .int 0), (2, .int 0), (0, .ref (a 0)), (1, .int x1)]) dX6_hour_15 rfl (by decide) rfl ?_
  refine v_sub (L2 := [(0, .ref (a 0)), (1, .int x1), (2, .int 0), (3, .int 0)]) [2, 3, 1, 0] rfl ?_
  exact v_X6_hour_L16 X a x1 FU m11 0 0 h F
theorem cw_X6_hour : CwB yX6_hour cX6_hour 6 (Option.some FieldType.int) 1 := ⟨q_813, q_57, by decide, by decide, by decide +kernel⟩
def f_X6_distances_I40 (x1 : Int32) (x2 : Int32) : Nat → Blk → Int32 → Option (Blk)
  | 0, _, _ => none
  | n + 1, μ, x3 =>
    (if ib (x1 + 3) 2048 = true then (if (2 * ((μ 1) (Int32.toNatClampNeg (x1 + 3)))) ≤ x3 then some μ else lt (f_X6_place x1 (x3 / 2)) fun q58 => (if (x3 - x3 / 2 * 2) = 0 then (f_X6_barred μ q58 true).bind fun q81 => (if q81 = 0 then (f_X6_to μ q58 true).bind fun q96 => (if ib q96 6 = true then (if ((μ 3) (Int32.toNatClampNeg q96)) = (x2 - 1) then (f_X6_from μ q58 true).bind fun q127 => (if ib q127 6 = true then (if 0 ≤ ((μ 3) (Int32.toNatClampNeg q127)) then f_X6_distances_I40 x1 x2 n μ (x3 + 1) else (f_X6_from μ q58 true).bind fun q143 => (if ib q143 6 = true then lt (upR μ 3 (upd (μ 3) (Int32.toNatClampNeg q143) x2)) fun m147 => f_X6_distances_I40 x1 x2 n m147 (x3 + 1) else none)) else none) else f_X6_distances_I40 x1 x2 n μ (x3 + 1)) else none) else f_X6_distances_I40 x1 x2 n μ (x3 + 1)) else (f_X6_barred μ q58 false).bind fun q81 => (if q81 = 0 then (f_X6_to μ q58 false).bind fun q96 => (if ib q96 6 = true then (if ((μ 3) (Int32.toNatClampNeg q96)) = (x2 - 1) then (f_X6_from μ q58 false).bind fun q127 => (if ib q127 6 = true then (if 0 ≤ ((μ 3) (Int32.toNatClampNeg q127)) then f_X6_distances_I40 x1 x2 n μ (x3 + 1) else (f_X6_from μ q58 false).bind fun q143 => (if ib q143 6 = true then lt (upR μ 3 (upd (μ 3) (Int32.toNatClampNeg q143) x2)) fun m147 => f_X6_distances_I40 x1 x2 n m147 (x3 + 1) else none)) else none) else f_X6_distances_I40 x1 x2 n μ (x3 + 1)) else none) else f_X6_distances_I40 x1 x2 n μ (x3 + 1)))) else none)
set_option maxHeartbeats 4000000 in
set_option maxRecDepth 100000 in
theorem v_X6_distances_I40 {x : Ctx} (X : Cx x RX6 cX6_distances 7 1 23) (a : Nat → Nat) (x1 : Int32) (x2 : Int32) : ∀ (n : Nat) (μ : Blk) (x3 : Int32) {res : Blk}, f_X6_distances_I40 x1 x2 n μ x3 = some res → V x (wM x.g a res) [(0, .ref (a 0)), (1, .int x1), (2, .int x2)] [] 154 → V x (wM x.g a μ) [(0, .ref (a 0)), (1, .int x1), (2, .int x2), (3, .int x3)] [] 40 := by
  intro n
  induction n with
  | zero =>
    intro μ x3 res h F
    rw [f_X6_distances_I40] at h
    cases h
  | succ n ih =>
    intro μ x3 res h F
    rw [f_X6_distances_I40] at h
    refine v_iload_n X (pc := 40) dX6_distances_40 rfl 3 rfl ?_
    refine v_iconst X (pc := 41) (v := 2) dX6_distances_41 (by decide) ?_
    refine v_aload_n X (pc := 42) dX6_distances_42 rfl 0 rfl ?_
    refine v_get X (pc := 43) (v := .ref (a 1)) uw6 0 rfl rfl 0 (by decide) q_668 rfl rfl dX6_distances_43 ?_
    refine v_iload_n X (pc := 46) dX6_distances_46 rfl 1 rfl ?_
    refine v_iconst X (pc := 47) (v := 3) dX6_distances_47 (by decide) ?_
    refine v_iadd X (pc := 48) dX6_distances_48 ?_
    obtain ⟨g49, h⟩ := og h
    refine v_iald X (pc := 49) (v := ((μ 1) (Int32.toNatClampNeg (x1 + 3)))) 1 rfl (ib_in g49) rfl dX6_distances_49 ?_
    refine v_imul X (pc := 50) dX6_distances_50 ?_
    refine v_icmpge X (pc := 51) (tgt := 154) dX6_distances_51 (by decide) (fun c => ?_) (fun c => ?_)
    · replace h := hp c h
      replace h := oi h
      subst h
      refine v_sub (L2 := [(0, .ref (a 0)), (1, .int x1), (2, .int x2)]) [0, 1, 2] rfl ?_
      exact F
    · replace h := hn c h
      refine v_iload_n X (pc := 54) dX6_distances_54 rfl 1 rfl ?_
      refine v_iload_n X (pc := 55) dX6_distances_55 rfl 3 rfl ?_
      refine v_iconst X (pc := 56) (v := 2) dX6_distances_56 (by decide) ?_
      refine v_idiv X (pc := 57) dX6_distances_57 (by decide) ?_
      obtain ⟨q58, e58, h⟩ := lts h
      refine v_callS X (pc := 58) (st1 := [.int q58]) (w' := (wM x.g a μ)) [.int x1, .int (x3 / 2)] [] (c_X6_place x.l x.g  x1 (x3 / 2) e58) rfl rfl cw_X6_place q_721 q_722 ⟨by decide, by decide⟩ Fr.nil rfl (Nat.le_of_ble_eq_true rfl) dX6_distances_58 ?_
      refine v_istore X (pc := 61) (L2 := [(4, .int q58), (0, .ref (a 0)), (1, .int x1), (2, .int x2), (3, .int x3)]) dX6_distances_61 (by decide) rfl ?_
      refine v_iload_n X (pc := 63) dX6_distances_63 rfl 4 rfl ?_
      refine v_iconst X (pc := 64) (v := 2) dX6_distances_64 (by decide) ?_
      refine v_irem X (pc := 65) dX6_distances_65 (by decide) ?_
      refine v_ifne X (pc := 66) (tgt := 73) dX6_distances_66 (by decide) (fun c => ?_) (fun c => ?_)
      · replace h := hn c h
        refine v_iconst X (pc := 73) (v := 0) dX6_distances_73 (by decide) ?_
        refine v_istore X (pc := 74) (L2 := [(5, .int 0), (4, .int q58), (0, .ref (a 0)), (1, .int x1), (2, .int x2), (3, .int x3)]) dX6_distances_74 (by decide) rfl ?_
        refine v_aload_n X (pc := 76) dX6_distances_76 rfl 2 rfl ?_
        refine v_iload X (pc := 77) dX6_distances_77 1 rfl ?_
        refine v_iload X (pc := 79) dX6_distances_79 0 rfl ?_
        obtain ⟨q81, e81, h⟩ := ob h
        refine v_callV X (pc := 81) (st1 := [.int q81]) (w' := (wM x.g a μ)) [.int q58, .int (b2i false)] [] (c_X6_barred x.l x.g a μ q58 false e81) rfl rfl cw_X6_barred q_767 q_769 q_27 ⟨by decide, by decide⟩ 0 6 rfl rfl rfl (Fr.all rfl) rfl (Nat.le_of_ble_eq_true rfl) dX6_distances_81 ?_
        refine v_ifne X (pc := 84) (tgt := 110) dX6_distances_84 (by decide) (fun c => ?_) (fun c => ?_)
        · replace h := hn c h
          refine v_iconst X (pc := 110) (v := 0) dX6_distances_110 (by decide) ?_
          refine v_istore X (pc := 111) (L2 := [(6, .int 0), (5, .int 0), (4, .int q58), (0, .ref (a 0)), (1, .int x1), (2, .int x2), (3, .int x3)]) dX6_distances_111 (by decide) rfl ?_
          refine v_iload X (pc := 113) dX6_distances_113 0 rfl ?_
          refine v_ifeq X (pc := 115) (tgt := 148) dX6_distances_115 (by decide) (fun _ => ?_) (fun c => absurd c (by decide))
          refine v_iinc X (pc := 148) (v := (x3 + 1)) (L2 := [(3, .int (x3 + 1)), (6, .int 0), (5, .int 0), (4, .int q58), (0, .ref (a 0)), (1, .int x1), (2, .int x2)]) dX6_distances_148 6 rfl (by first | rfl | decide) (by decide) rfl ?_
          refine v_goto X (pc := 151) (tgt := 40) dX6_distances_151 (by decide) ?_
          refine v_sub (L2 := [(0, .ref (a 0)), (1, .int x1), (2, .int x2), (3, .int (x3 + 1))]) [4, 5, 6, 0] rfl ?_
          exact ih μ (x3 + 1) h F
        · replace h := hp c h
          refine v_aload_n X (pc := 87) dX6_distances_87 rfl 2 rfl ?_
          refine v_get X (pc := 88) (v := .ref (a 3)) uw6 0 rfl rfl 5 (by decide) q_673 rfl rfl dX6_distances_88 ?_
          refine v_aload_n X (pc := 91) dX6_distances_91 rfl 2 rfl ?_
          refine v_iload X (pc := 92) dX6_distances_92 1 rfl ?_
          refine v_iload X (pc := 94) dX6_distances_94 0 rfl ?_
          obtain ⟨q96, e96, h⟩ := ob h
          refine v_callV X (pc := 96) (st1 := [.int q96, .ref (a 3)]) (w' := (wM x.g a μ)) [.int q58, .int (b2i false)] [.ref (a 3)] (c_X6_to x.l x.g a μ q58 false e96) rfl rfl cw_X6_to q_763 q_765 q_26 ⟨by decide, by decide⟩ 0 6 rfl rfl rfl (Fr.all rfl) rfl (Nat.le_of_ble_eq_true rfl) dX6_distances_96 ?_
          obtain ⟨g99, h⟩ := og h
          refine v_iald X (pc := 99) (v := ((μ 3) (Int32.toNatClampNeg q96))) 3 rfl (ib_in g99) rfl dX6_distances_99 ?_
          refine v_iload_n X (pc := 100) dX6_distances_100 rfl 4 rfl ?_
          refine v_iconst X (pc := 101) (v := 1) dX6_distances_101 (by decide) ?_
          refine v_isub X (pc := 102) dX6_distances_102 ?_
          refine v_icmpne X (pc := 103) (tgt := 110) dX6_distances_103 (by decide) (fun c => ?_) (fun c => ?_)
          · replace h := hn c h
            refine v_iconst X (pc := 110) (v := 0) dX6_distances_110 (by decide) ?_
            refine v_istore X (pc := 111) (L2 := [(6, .int 0), (5, .int 0), (4, .int q58), (0, .ref (a 0)), (1, .int x1), (2, .int x2), (3, .int x3)]) dX6_distances_111 (by decide) rfl ?_
            refine v_iload X (pc := 113) dX6_distances_113 0 rfl ?_
            refine v_ifeq X (pc := 115) (tgt := 148) dX6_distances_115 (by decide) (fun _ => ?_) (fun c => absurd c (by decide))
            refine v_iinc X (pc := 148) (v := (x3 + 1)) (L2 := [(3, .int (x3 + 1)), (6, .int 0), (5, .int 0), (4, .int q58), (0, .ref (a 0)), (1, .int x1), (2, .int x2)]) dX6_distances_148 6 rfl (by first | rfl | decide) (by decide) rfl ?_
            refine v_goto X (pc := 151) (tgt := 40) dX6_distances_151 (by decide) ?_
            refine v_sub (L2 := [(0, .ref (a 0)), (1, .int x1), (2, .int x2), (3, .int (x3 + 1))]) [4, 5, 6, 0] rfl ?_
            exact ih μ (x3 + 1) h F
          · replace h := hp c h
            refine v_iconst X (pc := 106) (v := 1) dX6_distances_106 (by decide) ?_
            refine v_goto X (pc := 107) (tgt := 111) dX6_distances_107 (by decide) ?_
            refine v_istore X (pc := 111) (L2 := [(6, .int 1), (5, .int 0), (4, .int q58), (0, .ref (a 0)), (1, .int x1), (2, .int x2), (3, .int x3)]) dX6_distances_111 (by decide) rfl ?_
            refine v_iload X (pc := 113) dX6_distances_113 0 rfl ?_
            refine v_ifeq X (pc := 115) (tgt := 148) dX6_distances_115 (by decide) (fun c => absurd c (by decide)) (fun _ => ?_)
            refine v_aload_n X (pc := 118) dX6_distances_118 rfl 3 rfl ?_
            refine v_get X (pc := 119) (v := .ref (a 3)) uw6 0 rfl rfl 5 (by decide) q_673 rfl rfl dX6_distances_119 ?_
            refine v_aload_n X (pc := 122) dX6_distances_122 rfl 3 rfl ?_
            refine v_iload X (pc := 123) dX6_distances_123 2 rfl ?_
            refine v_iload X (pc := 125) dX6_distances_125 1 rfl ?_
            obtain ⟨q127, e127, h⟩ := ob h
            refine v_callV X (pc := 127) (st1 := [.int q127, .ref (a 3)]) (w' := (wM x.g a μ)) [.int q58, .int (b2i false)] [.ref (a 3)] (c_X6_from x.l x.g a μ q58 false e127) rfl rfl cw_X6_from q_759 q_761 q_25 ⟨by decide, by decide⟩ 0 6 rfl rfl rfl (Fr.all rfl) rfl (Nat.le_of_ble_eq_true rfl) dX6_distances_127 ?_
            obtain ⟨g130, h⟩ := og h
            refine v_iald X (pc := 130) (v := ((μ 3) (Int32.toNatClampNeg q127))) 3 rfl (ib_in g130) rfl dX6_distances_130 ?_
            refine v_ifge X (pc := 131) (tgt := 148) dX6_distances_131 (by decide) (fun c => ?_) (fun c => ?_)
            · replace h := hp c h
              refine v_iinc X (pc := 148) (v := (x3 + 1)) (L2 := [(3, .int (x3 + 1)), (6, .int 1), (5, .int 0), (4, .int q58), (0, .ref (a 0)), (1, .int x1), (2, .int x2)]) dX6_distances_148 6 rfl (by first | rfl | decide) (by decide) rfl ?_
              refine v_goto X (pc := 151) (tgt := 40) dX6_distances_151 (by decide) ?_
              refine v_sub (L2 := [(0, .ref (a 0)), (1, .int x1), (2, .int x2), (3, .int (x3 + 1))]) [4, 5, 6, 0] rfl ?_
              exact ih μ (x3 + 1) h F
            · replace h := hn c h
              refine v_aload_n X (pc := 134) dX6_distances_134 rfl 3 rfl ?_
              refine v_get X (pc := 135) (v := .ref (a 3)) uw6 0 rfl rfl 5 (by decide) q_673 rfl rfl dX6_distances_135 ?_
              refine v_aload_n X (pc := 138) dX6_distances_138 rfl 3 rfl ?_
              refine v_iload X (pc := 139) dX6_distances_139 2 rfl ?_
              refine v_iload X (pc := 141) dX6_distances_141 1 rfl ?_
              obtain ⟨q143, e143, h⟩ := ob h
              refine v_callV X (pc := 143) (st1 := [.int q143, .ref (a 3)]) (w' := (wM x.g a μ)) [.int q58, .int (b2i false)] [.ref (a 3)] (c_X6_from x.l x.g a μ q58 false e143) rfl rfl cw_X6_from q_759 q_761 q_25 ⟨by decide, by decide⟩ 0 6 rfl rfl rfl (Fr.all rfl) rfl (Nat.le_of_ble_eq_true rfl) dX6_distances_143 ?_
              refine v_iload_n X (pc := 146) dX6_distances_146 rfl 5 rfl ?_
              obtain ⟨g147, h⟩ := og h
              obtain ⟨m147, em147, h⟩ := lts h
              refine v_iast X (pc := 147) (w' := (wM x.g a m147)) 3 rfl (ib_in g147) (by rw [← em147]; rfl) dX6_distances_147 ?_
              refine v_iinc X (pc := 148) (v := (x3 + 1)) (L2 := [(3, .int (x3 + 1)), (6, .int 1), (5, .int 0), (4, .int q58), (0, .ref (a 0)), (1, .int x1), (2, .int x2)]) dX6_distances_148 6 rfl (by first | rfl | decide) (by decide) rfl ?_
              refine v_goto X (pc := 151) (tgt := 40) dX6_distances_151 (by decide) ?_
              refine v_sub (L2 := [(0, .ref (a 0)), (1, .int x1), (2, .int x2), (3, .int (x3 + 1))]) [4, 5, 6, 0] rfl ?_
              exact ih m147 (x3 + 1) h F
      · replace h := hp c h
        refine v_iconst X (pc := 69) (v := 1) dX6_distances_69 (by decide) ?_
        refine v_goto X (pc := 70) (tgt := 74) dX6_distances_70 (by decide) ?_
        refine v_istore X (pc := 74) (L2 := [(5, .int 1), (4, .int q58), (0, .ref (a 0)), (1, .int x1), (2, .int x2), (3, .int x3)]) dX6_distances_74 (by decide) rfl ?_
        refine v_aload_n X (pc := 76) dX6_distances_76 rfl 2 rfl ?_
        refine v_iload X (pc := 77) dX6_distances_77 1 rfl ?_
        refine v_iload X (pc := 79) dX6_distances_79 0 rfl ?_
        obtain ⟨q81, e81, h⟩ := ob h
        refine v_callV X (pc := 81) (st1 := [.int q81]) (w' := (wM x.g a μ)) [.int q58, .int (b2i true)] [] (c_X6_barred x.l x.g a μ q58 true e81) rfl rfl cw_X6_barred q_767 q_769 q_27 ⟨by decide, by decide⟩ 0 6 rfl rfl rfl (Fr.all rfl) rfl (Nat.le_of_ble_eq_true rfl) dX6_distances_81 ?_
        refine v_ifne X (pc := 84) (tgt := 110) dX6_distances_84 (by decide) (fun c => ?_) (fun c => ?_)
        · replace h := hn c h
          refine v_iconst X (pc := 110) (v := 0) dX6_distances_110 (by decide) ?_
          refine v_istore X (pc := 111) (L2 := [(6, .int 0), (5, .int 1), (4, .int q58), (0, .ref (a 0)), (1, .int x1), (2, .int x2), (3, .int x3)]) dX6_distances_111 (by decide) rfl ?_
          refine v_iload X (pc := 113) dX6_distances_113 0 rfl ?_
          refine v_ifeq X (pc := 115) (tgt := 148) dX6_distances_115 (by decide) (fun _ => ?_) (fun c => absurd c (by decide))
          refine v_iinc X (pc := 148) (v := (x3 + 1)) (L2 := [(3, .int (x3 + 1)), (6, .int 0), (5, .int 1), (4, .int q58), (0, .ref (a 0)), (1, .int x1), (2, .int x2)]) dX6_distances_148 6 rfl (by first | rfl | decide) (by decide) rfl ?_
          refine v_goto X (pc := 151) (tgt := 40) dX6_distances_151 (by decide) ?_
          refine v_sub (L2 := [(0, .ref (a 0)), (1, .int x1), (2, .int x2), (3, .int (x3 + 1))]) [4, 5, 6, 0] rfl ?_
          exact ih μ (x3 + 1) h F
        · replace h := hp c h
          refine v_aload_n X (pc := 87) dX6_distances_87 rfl 2 rfl ?_
          refine v_get X (pc := 88) (v := .ref (a 3)) uw6 0 rfl rfl 5 (by decide) q_673 rfl rfl dX6_distances_88 ?_
          refine v_aload_n X (pc := 91) dX6_distances_91 rfl 2 rfl ?_
          refine v_iload X (pc := 92) dX6_distances_92 1 rfl ?_
          refine v_iload X (pc := 94) dX6_distances_94 0 rfl ?_
          obtain ⟨q96, e96, h⟩ := ob h
          refine v_callV X (pc := 96) (st1 := [.int q96, .ref (a 3)]) (w' := (wM x.g a μ)) [.int q58, .int (b2i true)] [.ref (a 3)] (c_X6_to x.l x.g a μ q58 true e96) rfl rfl cw_X6_to q_763 q_765 q_26 ⟨by decide, by decide⟩ 0 6 rfl rfl rfl (Fr.all rfl) rfl (Nat.le_of_ble_eq_true rfl) dX6_distances_96 ?_
          obtain ⟨g99, h⟩ := og h
          refine v_iald X (pc := 99) (v := ((μ 3) (Int32.toNatClampNeg q96))) 3 rfl (ib_in g99) rfl dX6_distances_99 ?_
          refine v_iload_n X (pc := 100) dX6_distances_100 rfl 4 rfl ?_
          refine v_iconst X (pc := 101) (v := 1) dX6_distances_101 (by decide) ?_
          refine v_isub X (pc := 102) dX6_distances_102 ?_
          refine v_icmpne X (pc := 103) (tgt := 110) dX6_distances_103 (by decide) (fun c => ?_) (fun c => ?_)
          · replace h := hn c h
            refine v_iconst X (pc := 110) (v := 0) dX6_distances_110 (by decide) ?_
            refine v_istore X (pc := 111) (L2 := [(6, .int 0), (5, .int 1), (4, .int q58), (0, .ref (a 0)), (1, .int x1), (2, .int x2), (3, .int x3)]) dX6_distances_111 (by decide) rfl ?_
            refine v_iload X (pc := 113) dX6_distances_113 0 rfl ?_
            refine v_ifeq X (pc := 115) (tgt := 148) dX6_distances_115 (by decide) (fun _ => ?_) (fun c => absurd c (by decide))
            refine v_iinc X (pc := 148) (v := (x3 + 1)) (L2 := [(3, .int (x3 + 1)), (6, .int 0), (5, .int 1), (4, .int q58), (0, .ref (a 0)), (1, .int x1), (2, .int x2)]) dX6_distances_148 6 rfl (by first | rfl | decide) (by decide) rfl ?_
            refine v_goto X (pc := 151) (tgt := 40) dX6_distances_151 (by decide) ?_
            refine v_sub (L2 := [(0, .ref (a 0)), (1, .int x1), (2, .int x2), (3, .int (x3 + 1))]) [4, 5, 6, 0] rfl ?_
            exact ih μ (x3 + 1) h F
          · replace h := hp c h
            refine v_iconst X (pc := 106) (v := 1) dX6_distances_106 (by decide) ?_
            refine v_goto X (pc := 107) (tgt := 111) dX6_distances_107 (by decide) ?_
            refine v_istore X (pc := 111) (L2 := [(6, .int 1), (5, .int 1), (4, .int q58), (0, .ref (a 0)), (1, .int x1), (2, .int x2), (3, .int x3)]) dX6_distances_111 (by decide) rfl ?_
            refine v_iload X (pc := 113) dX6_distances_113 0 rfl ?_
            refine v_ifeq X (pc := 115) (tgt := 148) dX6_distances_115 (by decide) (fun c => absurd c (by decide)) (fun _ => ?_)
            refine v_aload_n X (pc := 118) dX6_distances_118 rfl 3 rfl ?_
            refine v_get X (pc := 119) (v := .ref (a 3)) uw6 0 rfl rfl 5 (by decide) q_673 rfl rfl dX6_distances_119 ?_
            refine v_aload_n X (pc := 122) dX6_distances_122 rfl 3 rfl ?_
            refine v_iload X (pc := 123) dX6_distances_123 2 rfl ?_
            refine v_iload X (pc := 125) dX6_distances_125 1 rfl ?_
            obtain ⟨q127, e127, h⟩ := ob h
            refine v_callV X (pc := 127) (st1 := [.int q127, .ref (a 3)]) (w' := (wM x.g a μ)) [.int q58, .int (b2i true)] [.ref (a 3)] (c_X6_from x.l x.g a μ q58 true e127) rfl rfl cw_X6_from q_759 q_761 q_25 ⟨by decide, by decide⟩ 0 6 rfl rfl rfl (Fr.all rfl) rfl (Nat.le_of_ble_eq_true rfl) dX6_distances_127 ?_
            obtain ⟨g130, h⟩ := og h
            refine v_iald X (pc := 130) (v := ((μ 3) (Int32.toNatClampNeg q127))) 3 rfl (ib_in g130) rfl dX6_distances_130 ?_
            refine v_ifge X (pc := 131) (tgt := 148) dX6_distances_131 (by decide) (fun c => ?_) (fun c => ?_)
            · replace h := hp c h
              refine v_iinc X (pc := 148) (v := (x3 + 1)) (L2 := [(3, .int (x3 + 1)), (6, .int 1), (5, .int 1), (4, .int q58), (0, .ref (a 0)), (1, .int x1), (2, .int x2)]) dX6_distances_148 6 rfl (by first | rfl | decide) (by decide) rfl ?_
              refine v_goto X (pc := 151) (tgt := 40) dX6_distances_151 (by decide) ?_
              refine v_sub (L2 := [(0, .ref (a 0)), (1, .int x1), (2, .int x2), (3, .int (x3 + 1))]) [4, 5, 6, 0] rfl ?_
              exact ih μ (x3 + 1) h F
            · replace h := hn c h
              refine v_aload_n X (pc := 134) dX6_distances_134 rfl 3 rfl ?_
              refine v_get X (pc := 135) (v := .ref (a 3)) uw6 0 rfl rfl 5 (by decide) q_673 rfl rfl dX6_distances_135 ?_
              refine v_aload_n X (pc := 138) dX6_distances_138 rfl 3 rfl ?_
              refine v_iload X (pc := 139) dX6_distances_139 2 rfl ?_
              refine v_iload X (pc := 141) dX6_distances_141 1 rfl ?_
              obtain ⟨q143, e143, h⟩ := ob h
              refine v_callV X (pc := 143) (st1 := [.int q143, .ref (a 3)]) (w' := (wM x.g a μ)) [.int q58, .int (b2i true)] [.ref (a 3)] (c_X6_from x.l x.g a μ q58 true e143) rfl rfl cw_X6_from q_759 q_761 q_25 ⟨by decide, by decide⟩ 0 6 rfl rfl rfl (Fr.all rfl) rfl (Nat.le_of_ble_eq_true rfl) dX6_distances_143 ?_
              refine v_iload_n X (pc := 146) dX6_distances_146 rfl 5 rfl ?_
              obtain ⟨g147, h⟩ := og h
              obtain ⟨m147, em147, h⟩ := lts h
              refine v_iast X (pc := 147) (w' := (wM x.g a m147)) 3 rfl (ib_in g147) (by rw [← em147]; rfl) dX6_distances_147 ?_
              refine v_iinc X (pc := 148) (v := (x3 + 1)) (L2 := [(3, .int (x3 + 1)), (6, .int 1), (5, .int 1), (4, .int q58), (0, .ref (a 0)), (1, .int x1), (2, .int x2)]) dX6_distances_148 6 rfl (by first | rfl | decide) (by decide) rfl ?_
              refine v_goto X (pc := 151) (tgt := 40) dX6_distances_151 (by decide) ?_
              refine v_sub (L2 := [(0, .ref (a 0)), (1, .int x1), (2, .int x2), (3, .int (x3 + 1))]) [4, 5, 6, 0] rfl ?_
              exact ih m147 (x3 + 1) h F
def f_X6_distances_L32 (x1 : Int32) : Nat → Blk → Int32 → Option (Blk)
  | 0, _, _ => none
  | n + 1, μ, x2 =>
    (if 6 ≤ x2 then some μ else (f_X6_distances_I40 x1 x2 FU μ 0).bind fun q40 => f_X6_distances_L32 x1 n q40 (x2 + 1))
set_option maxHeartbeats 4000000 in
set_option maxRecDepth 100000 in
theorem v_X6_distances_L32 {x : Ctx} (X : Cx x RX6 cX6_distances 7 1 23) (a : Nat → Nat) (x1 : Int32) : ∀ (n : Nat) (μ : Blk) (x2 : Int32) {res : Blk}, f_X6_distances_L32 x1 n μ x2 = some res → Fn x (Option.none : Option FieldType) none (wM x.g a res) → V x (wM x.g a μ) [(0, .ref (a 0)), (1, .int x1), (2, .int x2)] [] 32 := by
  intro n
  induction n with
  | zero =>
    intro μ x2 res h F
    rw [f_X6_distances_L32] at h
    cases h
  | succ n ih =>
    intro μ x2 res h F
    rw [f_X6_distances_L32] at h
    refine v_iload_n X (pc := 32) dX6_distances_32 rfl 2 rfl ?_
    refine v_bipush X (pc := 33) (v := 6) dX6_distances_33 (by decide) ?_
    refine v_icmpge X (pc := 35) (tgt := 160) dX6_distances_35 (by decide) (fun c => ?_) (fun c => ?_)
    · replace h := hp c h
      replace h := oi h
      subst h
      exact v_vret X (pc := 160) F dX6_distances_160
    · replace h := hn c h
      refine v_iconst X (pc := 38) (v := 0) dX6_distances_38 (by decide) ?_
      refine v_istore_n X (pc := 39) (L2 := [(3, .int 0), (0, .ref (a 0)), (1, .int x1), (2, .int x2)]) dX6_distances_39 rfl (by decide) rfl ?_
      refine v_sub (L2 := [(0, .ref (a 0)), (1, .int x1), (2, .int x2), (3, .int 0)]) [1, 2, 3, 0] rfl ?_
      obtain ⟨q40, e40, h⟩ := ob h
      refine v_X6_distances_I40 X a x1 x2 FU μ 0 e40 ?_
      refine v_iinc X (pc := 154) (v := (x2 + 1)) (L2 := [(2, .int (x2 + 1)), (0, .ref (a 0)), (1, .int x1)]) dX6_distances_154 2 rfl (by first | rfl | decide) (by decide) rfl ?_
      refine v_goto X (pc := 157) (tgt := 32) dX6_distances_157 (by decide) ?_
      refine v_sub (L2 := [(0, .ref (a 0)), (1, .int x1), (2, .int (x2 + 1))]) [1, 2, 0] rfl ?_
      exact ih q40 (x2 + 1) h F
def f_X6_distances_L2 (x1 : Int32) : Nat → Blk → Int32 → Option (Blk)
  | 0, _, _ => none
  | n + 1, μ, x2 =>
    (if 6 ≤ x2 then f_X6_distances_L32 x1 FU μ 1 else (if x2 = 0 then (if ib x2 6 = true then lt (upR μ 3 (upd (μ 3) (Int32.toNatClampNeg x2) 0)) fun m23 => f_X6_distances_L2 x1 n m23 (x2 + 1) else none) else (if ib x2 6 = true then lt (upR μ 3 (upd (μ 3) (Int32.toNatClampNeg x2) (-100005))) fun m23 => f_X6_distances_L2 x1 n m23 (x2 + 1) else none)))
set_option maxHeartbeats 4000000 in
set_option maxRecDepth 100000 in
theorem v_X6_distances_L2 {x : Ctx} (X : Cx x RX6 cX6_distances 7 1 23) (a : Nat → Nat) (x1 : Int32) : ∀ (n : Nat) (μ : Blk) (x2 : Int32) {res : Blk}, f_X6_distances_L2 x1 n μ x2 = some res → Fn x (Option.none : Option FieldType) none (wM x.g a res) → V x (wM x.g a μ) [(0, .ref (a 0)), (1, .int x1), (2, .int x2)] [] 2 := by
  intro n
  induction n with
  | zero =>
    intro μ x2 res h F
    rw [f_X6_distances_L2] at h
    cases h
  | succ n ih =>
    intro μ x2 res h F
    rw [f_X6_distances_L2] at h
    refine v_iload_n X (pc := 2) dX6_distances_2 rfl 2 rfl ?_
    refine v_bipush X (pc := 3) (v := 6) dX6_distances_3 (by decide) ?_
    refine v_icmpge X (pc := 5) (tgt := 30) dX6_distances_5 (by decide) (fun c => ?_) (fun c => ?_)
    · replace h := hp c h
      refine v_iconst X (pc := 30) (v := 1) dX6_distances_30 (by decide) ?_
      refine v_istore_n X (pc := 31) (L2 := [(2, .int 1), (0, .ref (a 0)), (1, .int x1)]) dX6_distances_31 rfl (by decide) rfl ?_
      refine v_sub (L2 := [(0, .ref (a 0)), (1, .int x1), (2, .int 1)]) [1, 2, 0] rfl ?_
      exact v_X6_distances_L32 X a x1 FU μ 1 h F
    · replace h := hn c h
      refine v_aload_n X (pc := 8) dX6_distances_8 rfl 0 rfl ?_
      refine v_get X (pc := 9) (v := .ref (a 3)) uw6 0 rfl rfl 5 (by decide) q_673 rfl rfl dX6_distances_9 ?_
      refine v_iload_n X (pc := 12) dX6_distances_12 rfl 2 rfl ?_
      refine v_iload_n X (pc := 13) dX6_distances_13 rfl 2 rfl ?_
      refine v_ifne X (pc := 14) (tgt := 21) dX6_distances_14 (by decide) (fun c => ?_) (fun c => ?_)
      · replace h := hn c h
        refine v_ldc X (pc := 21) (v := (-100005)) q_826 dX6_distances_21 ?_
        obtain ⟨g23, h⟩ := og h
        obtain ⟨m23, em23, h⟩ := lts h
        refine v_iast X (pc := 23) (w' := (wM x.g a m23)) 3 rfl (ib_in g23) (by rw [← em23]; rfl) dX6_distances_23 ?_
        refine v_iinc X (pc := 24) (v := (x2 + 1)) (L2 := [(2, .int (x2 + 1)), (0, .ref (a 0)), (1, .int x1)]) dX6_distances_24 2 rfl (by first | rfl | decide) (by decide) rfl ?_
        refine v_goto X (pc := 27) (tgt := 2) dX6_distances_27 (by decide) ?_
        refine v_sub (L2 := [(0, .ref (a 0)), (1, .int x1), (2, .int (x2 + 1))]) [1, 2, 0] rfl ?_
        exact ih m23 (x2 + 1) h F
      · replace h := hp c h
        refine v_iconst X (pc := 17) (v := 0) dX6_distances_17 (by decide) ?_
        refine v_goto X (pc := 18) (tgt := 23) dX6_distances_18 (by decide) ?_
        obtain ⟨g23, h⟩ := og h
        obtain ⟨m23, em23, h⟩ := lts h
        refine v_iast X (pc := 23) (w' := (wM x.g a m23)) 3 rfl (ib_in g23) (by rw [← em23]; rfl) dX6_distances_23 ?_
        refine v_iinc X (pc := 24) (v := (x2 + 1)) (L2 := [(2, .int (x2 + 1)), (0, .ref (a 0)), (1, .int x1)]) dX6_distances_24 2 rfl (by first | rfl | decide) (by decide) rfl ?_
        refine v_goto X (pc := 27) (tgt := 2) dX6_distances_27 (by decide) ?_
        refine v_sub (L2 := [(0, .ref (a 0)), (1, .int x1), (2, .int (x2 + 1))]) [1, 2, 0] rfl ?_
        exact ih m23 (x2 + 1) h F
def f_X6_distances (μ : Blk) (x1 : Int32) : Option (Blk) :=
  f_X6_distances_L2 x1 FU μ 0
set_option maxHeartbeats 4000000 in
set_option maxRecDepth 100000 in
theorem c_X6_distances (l : Launch) (g : Gl) (a : Nat → Nat) (μ : Blk) (x1 : Int32) {res : Blk} (h : f_X6_distances μ x1 = some res) : Ok l g yX6_distances cX6_distances 7 (Option.none : Option FieldType) 1 23 [.ref (a 0), .int x1] (wM g a μ) none (wM g a res) := by
  refine Ok.of RX6 (by decide) rfl (Nat.le_of_ble_eq_true rfl) (fun x hl hg X F => ?_)
  subst hg; subst hl
  rw [f_X6_distances] at h
  show V x (wM x.g a μ) [(0, .ref (a 0)), (1, .int x1)] [] 0
  refine v_iconst X (pc := 0) (v := 0) dX6_distances_0 (by decide) ?_
  refine v_istore_n X (pc := 1) (L2 := [(2, .int 0), (0, .ref (a 0)), (1, .int x1)]) dX6_distances_1 rfl (by decide) rfl ?_
  refine v_sub (L2 := [(0, .ref (a 0)), (1, .int x1), (2, .int 0)]) [1, 2, 0] rfl ?_
  exact v_X6_distances_L2 X a x1 FU μ 0 h F
theorem cw_X6_distances : CwB yX6_distances cX6_distances 7 (Option.none : Option FieldType) 1 := ⟨q_825, q_57, by decide, by decide, by decide +kernel⟩
def f_X6_closes_L9 (x1 : Int32) : Nat → Blk → Int32 → Int32 → Option (Int32 × Blk)
  | 0, _, _, _ => none
  | n + 1, μ, x2, x3 =>
    (if ib (x1 + 3) 2048 = true then (if (2 * ((μ 1) (Int32.toNatClampNeg (x1 + 3)))) ≤ x3 then (f_X6_hour μ x1).bind fun q138 => some (x2, q138.2) else lt (f_X6_place x1 (x3 / 2)) fun q27 => (if (x3 - x3 / 2 * 2) = 0 then (f_X6_from μ q27 true).bind fun q54 => (if ib q54 6 = true then (f_X6_to μ q27 true).bind fun q69 => (if ib q69 6 = true then (if ((μ 3) (Int32.toNatClampNeg q69)) < 0 then (f_X6_passes μ x1 (x3 / 2) true 0).bind fun q122 => f_X6_closes_L9 x1 n q122 (x2 + 0) (x3 + 1) else (if ((μ 3) (Int32.toNatClampNeg q54)) = (((μ 3) (Int32.toNatClampNeg q69)) + 1) then (if ib (x1 + 0) 2048 = true then (f_X6_atMost μ x1 (x3 / 2) true ((μ 1) (Int32.toNatClampNeg (x1 + 0)))).bind fun q104 => (f_X6_passes μ x1 (x3 / 2) true q104).bind fun q122 => f_X6_closes_L9 x1 n q122 (x2 + q104) (x3 + 1) else none) else (f_X6_passes μ x1 (x3 / 2) true 0).bind fun q122 => f_X6_closes_L9 x1 n q122 (x2 + 0) (x3 + 1))) else none) else none) else (f_X6_from μ q27 false).bind fun q54 => (if ib q54 6 = true then (f_X6_to μ q27 false).bind fun q69 => (if ib q69 6 = true then (if ((μ 3) (Int32.toNatClampNeg q69)) < 0 then (f_X6_passes μ x1 (x3 / 2) false 0).bind fun q122 => f_X6_closes_L9 x1 n q122 (x2 + 0) (x3 + 1) else (if ((μ 3) (Int32.toNatClampNeg q54)) = (((μ 3) (Int32.toNatClampNeg q69)) + 1) then (if ib (x1 + 0) 2048 = true then (f_X6_atMost μ x1 (x3 / 2) false ((μ 1) (Int32.toNatClampNeg (x1 + 0)))).bind fun q104 => (f_X6_passes μ x1 (x3 / 2) false q104).bind fun q122 => f_X6_closes_L9 x1 n q122 (x2 + q104) (x3 + 1) else none) else (f_X6_passes μ x1 (x3 / 2) false 0).bind fun q122 => f_X6_closes_L9 x1 n q122 (x2 + 0) (x3 + 1))) else none) else none))) else none)
set_option maxHeartbeats 4000000 in
set_option maxRecDepth 100000 in
theorem v_X6_closes_L9 {x : Ctx} (X : Cx x RX6 cX6_closes 9 2 53) (a : Nat → Nat) (x1 : Int32) : ∀ (n : Nat) (μ : Blk) (x2 : Int32) (x3 : Int32) {res : Int32 × Blk}, f_X6_closes_L9 x1 n μ x2 x3 = some res → Fn x (Option.some FieldType.int) (some (.int res.1)) (wM x.g a res.2) → V x (wM x.g a μ) [(0, .ref (a 0)), (1, .int x1), (2, .int x2), (3, .int x3)] [] 9 := by
  intro n
  induction n with
  | zero =>
    intro μ x2 x3 res h F
    rw [f_X6_closes_L9] at h
    cases h
  | succ n ih =>
    intro μ x2 x3 res h F
    rw [f_X6_closes_L9] at h
    refine v_iload_n X (pc := 9) dX6_closes_9 rfl 3 rfl ?_
    refine v_iconst X (pc := 10) (v := 2) dX6_closes_10 (by decide) ?_
    refine v_aload_n X (pc := 11) dX6_closes_11 rfl 0 rfl ?_
    refine v_get X (pc := 12) (v := .ref (a 1)) uw6 0 rfl rfl 0 (by decide) q_668 rfl rfl dX6_closes_12 ?_
    refine v_iload_n X (pc := 15) dX6_closes_15 rfl 1 rfl ?_
    refine v_iconst X (pc := 16) (v := 3) dX6_closes_16 (by decide) ?_
    refine v_iadd X (pc := 17) dX6_closes_17 ?_
    obtain ⟨g18, h⟩ := og h
    refine v_iald X (pc := 18) (v := ((μ 1) (Int32.toNatClampNeg (x1 + 3)))) 1 rfl (ib_in g18) rfl dX6_closes_18 ?_
    refine v_imul X (pc := 19) dX6_closes_19 ?_
    refine v_icmpge X (pc := 20) (tgt := 136) dX6_closes_20 (by decide) (fun c => ?_) (fun c => ?_)
    · replace h := hp c h
      refine v_aload_n X (pc := 136) dX6_closes_136 rfl 0 rfl ?_
      refine v_iload_n X (pc := 137) dX6_closes_137 rfl 1 rfl ?_
      obtain ⟨q138, e138, h⟩ := ob h
      refine v_callV X (pc := 138) (st1 := [.int q138.1]) (w' := (wM x.g a q138.2)) [.int x1] [] (c_X6_hour x.l x.g a μ x1 e138) rfl rfl cw_X6_hour q_810 q_812 q_34 ⟨by decide, by decide⟩ 0 6 rfl rfl rfl (Fr.all rfl) rfl (Nat.le_of_ble_eq_true rfl) dX6_closes_138 ?_
      refine v_pop X (pc := 141) dX6_closes_141 rfl ?_
      refine v_iload_n X (pc := 142) dX6_closes_142 rfl 2 rfl ?_
      replace h := oi h
      subst h
      exact v_iret X (pc := 143) F dX6_closes_143
    · replace h := hn c h
      refine v_iload_n X (pc := 23) dX6_closes_23 rfl 1 rfl ?_
      refine v_iload_n X (pc := 24) dX6_closes_24 rfl 3 rfl ?_
      refine v_iconst X (pc := 25) (v := 2) dX6_closes_25 (by decide) ?_
      refine v_idiv X (pc := 26) dX6_closes_26 (by decide) ?_
      obtain ⟨q27, e27, h⟩ := lts h
      refine v_callS X (pc := 27) (st1 := [.int q27]) (w' := (wM x.g a μ)) [.int x1, .int (x3 / 2)] [] (c_X6_place x.l x.g  x1 (x3 / 2) e27) rfl rfl cw_X6_place q_721 q_722 ⟨by decide, by decide⟩ Fr.nil rfl (Nat.le_of_ble_eq_true rfl) dX6_closes_27 ?_
      refine v_istore X (pc := 30) (L2 := [(4, .int q27), (0, .ref (a 0)), (1, .int x1), (2, .int x2), (3, .int x3)]) dX6_closes_30 (by decide) rfl ?_
      refine v_iload_n X (pc := 32) dX6_closes_32 rfl 4 rfl ?_
      refine v_iconst X (pc := 33) (v := 2) dX6_closes_33 (by decide) ?_
      refine v_irem X (pc := 34) dX6_closes_34 (by decide) ?_
      refine v_ifne X (pc := 35) (tgt := 42) dX6_closes_35 (by decide) (fun c => ?_) (fun c => ?_)
      · replace h := hn c h
        refine v_iconst X (pc := 42) (v := 0) dX6_closes_42 (by decide) ?_
        refine v_istore X (pc := 43) (L2 := [(5, .int 0), (4, .int q27), (0, .ref (a 0)), (1, .int x1), (2, .int x2), (3, .int x3)]) dX6_closes_43 (by decide) rfl ?_
        refine v_aload_n X (pc := 45) dX6_closes_45 rfl 2 rfl ?_
        refine v_get X (pc := 46) (v := .ref (a 3)) uw6 0 rfl rfl 5 (by decide) q_673 rfl rfl dX6_closes_46 ?_
        refine v_aload_n X (pc := 49) dX6_closes_49 rfl 2 rfl ?_
        refine v_iload X (pc := 50) dX6_closes_50 1 rfl ?_
        refine v_iload X (pc := 52) dX6_closes_52 0 rfl ?_
        obtain ⟨q54, e54, h⟩ := ob h
        refine v_callV X (pc := 54) (st1 := [.int q54, .ref (a 3)]) (w' := (wM x.g a μ)) [.int q27, .int (b2i false)] [.ref (a 3)] (c_X6_from x.l x.g a μ q27 false e54) rfl rfl cw_X6_from q_759 q_761 q_25 ⟨by decide, by decide⟩ 0 6 rfl rfl rfl (Fr.all rfl) rfl (Nat.le_of_ble_eq_true rfl) dX6_closes_54 ?_
        obtain ⟨g57, h⟩ := og h
        refine v_iald X (pc := 57) (v := ((μ 3) (Int32.toNatClampNeg q54))) 3 rfl (ib_in g57) rfl dX6_closes_57 ?_
        refine v_istore X (pc := 58) (L2 := [(6, .int ((μ 3) (Int32.toNatClampNeg q54))), (5, .int 0), (4, .int q27), (0, .ref (a 0)), (1, .int x1), (2, .int x2), (3, .int x3)]) dX6_closes_58 (by decide) rfl ?_
        refine v_aload_n X (pc := 60) dX6_closes_60 rfl 3 rfl ?_
        refine v_get X (pc := 61) (v := .ref (a 3)) uw6 0 rfl rfl 5 (by decide) q_673 rfl rfl dX6_closes_61 ?_
        refine v_aload_n X (pc := 64) dX6_closes_64 rfl 3 rfl ?_
        refine v_iload X (pc := 65) dX6_closes_65 2 rfl ?_
        refine v_iload X (pc := 67) dX6_closes_67 1 rfl ?_
        obtain ⟨q69, e69, h⟩ := ob h
        refine v_callV X (pc := 69) (st1 := [.int q69, .ref (a 3)]) (w' := (wM x.g a μ)) [.int q27, .int (b2i false)] [.ref (a 3)] (c_X6_to x.l x.g a μ q27 false e69) rfl rfl cw_X6_to q_763 q_765 q_26 ⟨by decide, by decide⟩ 0 6 rfl rfl rfl (Fr.all rfl) rfl (Nat.le_of_ble_eq_true rfl) dX6_closes_69 ?_
        obtain ⟨g72, h⟩ := og h
        refine v_iald X (pc := 72) (v := ((μ 3) (Int32.toNatClampNeg q69))) 3 rfl (ib_in g72) rfl dX6_closes_72 ?_
        refine v_istore X (pc := 73) (L2 := [(7, .int ((μ 3) (Int32.toNatClampNeg q69))), (6, .int ((μ 3) (Int32.toNatClampNeg q54))), (5, .int 0), (4, .int q27), (0, .ref (a 0)), (1, .int x1), (2, .int x2), (3, .int x3)]) dX6_closes_73 (by decide) rfl ?_
        refine v_iload X (pc := 75) dX6_closes_75 0 rfl ?_
        refine v_iflt X (pc := 77) (tgt := 110) dX6_closes_77 (by decide) (fun c => ?_) (fun c => ?_)
        · replace h := hp c h
          refine v_iconst X (pc := 110) (v := 0) dX6_closes_110 (by decide) ?_
          refine v_istore X (pc := 111) (L2 := [(8, .int 0), (7, .int ((μ 3) (Int32.toNatClampNeg q69))), (6, .int ((μ 3) (Int32.toNatClampNeg q54))), (5, .int 0), (4, .int q27), (0, .ref (a 0)), (1, .int x1), (2, .int x2), (3, .int x3)]) dX6_closes_111 (by decide) rfl ?_
          refine v_aload_n X (pc := 113) dX6_closes_113 rfl 5 rfl ?_
          refine v_iload_n X (pc := 114) dX6_closes_114 rfl 6 rfl ?_
          refine v_iload_n X (pc := 115) dX6_closes_115 rfl 8 rfl ?_
          refine v_iconst X (pc := 116) (v := 2) dX6_closes_116 (by decide) ?_
          refine v_idiv X (pc := 117) dX6_closes_117 (by decide) ?_
          refine v_iload X (pc := 118) dX6_closes_118 3 rfl ?_
          refine v_iload X (pc := 120) dX6_closes_120 0 rfl ?_
          obtain ⟨q122, e122, h⟩ := ob h
          refine v_callV X (pc := 122) (st1 := []) (w' := (wM x.g a q122)) [.int x1, .int (x3 / 2), .int (b2i false), .int 0] [] (c_X6_passes x.l x.g a μ x1 (x3 / 2) false 0 e122) rfl rfl cw_X6_passes q_771 q_773 q_28 ⟨by decide, by decide⟩ 0 6 rfl rfl rfl (Fr.all rfl) rfl (Nat.le_of_ble_eq_true rfl) dX6_closes_122 ?_
          refine v_iload_n X (pc := 125) dX6_closes_125 rfl 7 rfl ?_
          refine v_iload X (pc := 126) dX6_closes_126 0 rfl ?_
          refine v_iadd X (pc := 128) dX6_closes_128 ?_
          refine v_istore_n X (pc := 129) (L2 := [(2, .int (x2 + 0)), (8, .int 0), (7, .int ((μ 3) (Int32.toNatClampNeg q69))), (6, .int ((μ 3) (Int32.toNatClampNeg q54))), (5, .int 0), (4, .int q27), (0, .ref (a 0)), (1, .int x1), (3, .int x3)]) dX6_closes_129 rfl (by decide) rfl ?_
          refine v_iinc X (pc := 130) (v := (x3 + 1)) (L2 := [(3, .int (x3 + 1)), (2, .int (x2 + 0)), (8, .int 0), (7, .int ((μ 3) (Int32.toNatClampNeg q69))), (6, .int ((μ 3) (Int32.toNatClampNeg q54))), (5, .int 0), (4, .int q27), (0, .ref (a 0)), (1, .int x1)]) dX6_closes_130 8 rfl (by first | rfl | decide) (by decide) rfl ?_
          refine v_goto X (pc := 133) (tgt := 9) dX6_closes_133 (by decide) ?_
          refine v_sub (L2 := [(0, .ref (a 0)), (1, .int x1), (2, .int (x2 + 0)), (3, .int (x3 + 1))]) [7, 8, 1, 0] rfl ?_
          exact ih q122 (x2 + 0) (x3 + 1) h F
        · replace h := hn c h
          refine v_iload X (pc := 80) dX6_closes_80 1 rfl ?_
          refine v_iload X (pc := 82) dX6_closes_82 0 rfl ?_
          refine v_iconst X (pc := 84) (v := 1) dX6_closes_84 (by decide) ?_
          refine v_iadd X (pc := 85) dX6_closes_85 ?_
          refine v_icmpne X (pc := 86) (tgt := 110) dX6_closes_86 (by decide) (fun c => ?_) (fun c => ?_)
          · replace h := hn c h
            refine v_iconst X (pc := 110) (v := 0) dX6_closes_110 (by decide) ?_
            refine v_istore X (pc := 111) (L2 := [(8, .int 0), (7, .int ((μ 3) (Int32.toNatClampNeg q69))), (6, .int ((μ 3) (Int32.toNatClampNeg q54))), (5, .int 0), (4, .int q27), (0, .ref (a 0)), (1, .int x1), (2, .int x2), (3, .int x3)]) dX6_closes_111 (by decide) rfl ?_
            refine v_aload_n X (pc := 113) dX6_closes_113 rfl 5 rfl ?_
            refine v_iload_n X (pc := 114) dX6_closes_114 rfl 6 rfl ?_
            refine v_iload_n X (pc := 115) dX6_closes_115 rfl 8 rfl ?_
            refine v_iconst X (pc := 116) (v := 2) dX6_closes_116 (by decide) ?_
            refine v_idiv X (pc := 117) dX6_closes_117 (by decide) ?_
            refine v_iload X (pc := 118) dX6_closes_118 3 rfl ?_
            refine v_iload X (pc := 120) dX6_closes_120 0 rfl ?_
            obtain ⟨q122, e122, h⟩ := ob h
            refine v_callV X (pc := 122) (st1 := []) (w' := (wM x.g a q122)) [.int x1, .int (x3 / 2), .int (b2i false), .int 0] [] (c_X6_passes x.l x.g a μ x1 (x3 / 2) false 0 e122) rfl rfl cw_X6_passes q_771 q_773 q_28 ⟨by decide, by decide⟩ 0 6 rfl rfl rfl (Fr.all rfl) rfl (Nat.le_of_ble_eq_true rfl) dX6_closes_122 ?_
            refine v_iload_n X (pc := 125) dX6_closes_125 rfl 7 rfl ?_
            refine v_iload X (pc := 126) dX6_closes_126 0 rfl ?_
            refine v_iadd X (pc := 128) dX6_closes_128 ?_
            refine v_istore_n X (pc := 129) (L2 := [(2, .int (x2 + 0)), (8, .int 0), (7, .int ((μ 3) (Int32.toNatClampNeg q69))), (6, .int ((μ 3) (Int32.toNatClampNeg q54))), (5, .int 0), (4, .int q27), (0, .ref (a 0)), (1, .int x1), (3, .int x3)]) dX6_closes_129 rfl (by decide) rfl ?_
            refine v_iinc X (pc := 130) (v := (x3 + 1)) (L2 := [(3, .int (x3 + 1)), (2, .int (x2 + 0)), (8, .int 0), (7, .int ((μ 3) (Int32.toNatClampNeg q69))), (6, .int ((μ 3) (Int32.toNatClampNeg q54))), (5, .int 0), (4, .int q27), (0, .ref (a 0)), (1, .int x1)]) dX6_closes_130 8 rfl (by first | rfl | decide) (by decide) rfl ?_
            refine v_goto X (pc := 133) (tgt := 9) dX6_closes_133 (by decide) ?_
            refine v_sub (L2 := [(0, .ref (a 0)), (1, .int x1), (2, .int (x2 + 0)), (3, .int (x3 + 1))]) [7, 8, 1, 0] rfl ?_
            exact ih q122 (x2 + 0) (x3 + 1) h F
          · replace h := hp c h
            refine v_aload_n X (pc := 89) dX6_closes_89 rfl 4 rfl ?_
            refine v_iload_n X (pc := 90) dX6_closes_90 rfl 5 rfl ?_
            refine v_iload_n X (pc := 91) dX6_closes_91 rfl 7 rfl ?_
            refine v_iconst X (pc := 92) (v := 2) dX6_closes_92 (by decide) ?_
            refine v_idiv X (pc := 93) dX6_closes_93 (by decide) ?_
            refine v_iload X (pc := 94) dX6_closes_94 2 rfl ?_
            refine v_aload_n X (pc := 96) dX6_closes_96 rfl 4 rfl ?_
            refine v_get X (pc := 97) (v := .ref (a 1)) uw6 0 rfl rfl 0 (by decide) q_668 rfl rfl dX6_closes_97 ?_
            refine v_iload_n X (pc := 100) dX6_closes_100 rfl 5 rfl ?_
            refine v_iconst X (pc := 101) (v := 0) dX6_closes_101 (by decide) ?_
            refine v_iadd X (pc := 102) dX6_closes_102 ?_
            obtain ⟨g103, h⟩ := og h
            refine v_iald X (pc := 103) (v := ((μ 1) (Int32.toNatClampNeg (x1 + 0)))) 1 rfl (ib_in g103) rfl dX6_closes_103 ?_
            obtain ⟨q104, e104, h⟩ := ob h
            refine v_callV X (pc := 104) (st1 := [.int q104]) (w' := (wM x.g a μ)) [.int x1, .int (x3 / 2), .int (b2i false), .int ((μ 1) (Int32.toNatClampNeg (x1 + 0)))] [] (c_X6_atMost x.l x.g a μ x1 (x3 / 2) false ((μ 1) (Int32.toNatClampNeg (x1 + 0))) e104) rfl rfl cw_X6_atMost q_827 q_829 q_37 ⟨by decide, by decide⟩ 0 6 rfl rfl rfl (Fr.all rfl) rfl (Nat.le_of_ble_eq_true rfl) dX6_closes_104 ?_
            refine v_goto X (pc := 107) (tgt := 111) dX6_closes_107 (by decide) ?_
            refine v_istore X (pc := 111) (L2 := [(8, .int q104), (7, .int ((μ 3) (Int32.toNatClampNeg q69))), (6, .int ((μ 3) (Int32.toNatClampNeg q54))), (5, .int 0), (4, .int q27), (0, .ref (a 0)), (1, .int x1), (2, .int x2), (3, .int x3)]) dX6_closes_111 (by decide) rfl ?_
            refine v_aload_n X (pc := 113) dX6_closes_113 rfl 5 rfl ?_
            refine v_iload_n X (pc := 114) dX6_closes_114 rfl 6 rfl ?_
            refine v_iload_n X (pc := 115) dX6_closes_115 rfl 8 rfl ?_
            refine v_iconst X (pc := 116) (v := 2) dX6_closes_116 (by decide) ?_
            refine v_idiv X (pc := 117) dX6_closes_117 (by decide) ?_
            refine v_iload X (pc := 118) dX6_closes_118 3 rfl ?_
            refine v_iload X (pc := 120) dX6_closes_120 0 rfl ?_
            obtain ⟨q122, e122, h⟩ := ob h
            refine v_callV X (pc := 122) (st1 := []) (w' := (wM x.g a q122)) [.int x1, .int (x3 / 2), .int (b2i false), .int q104] [] (c_X6_passes x.l x.g a μ x1 (x3 / 2) false q104 e122) rfl rfl cw_X6_passes q_771 q_773 q_28 ⟨by decide, by decide⟩ 0 6 rfl rfl rfl (Fr.all rfl) rfl (Nat.le_of_ble_eq_true rfl) dX6_closes_122 ?_
            refine v_iload_n X (pc := 125) dX6_closes_125 rfl 7 rfl ?_
            refine v_iload X (pc := 126) dX6_closes_126 0 rfl ?_
            refine v_iadd X (pc := 128) dX6_closes_128 ?_
            refine v_istore_n X (pc := 129) (L2 := [(2, .int (x2 + q104)), (8, .int q104), (7, .int ((μ 3) (Int32.toNatClampNeg q69))), (6, .int ((μ 3) (Int32.toNatClampNeg q54))), (5, .int 0), (4, .int q27), (0, .ref (a 0)), (1, .int x1), (3, .int x3)]) dX6_closes_129 rfl (by decide) rfl ?_
            refine v_iinc X (pc := 130) (v := (x3 + 1)) (L2 := [(3, .int (x3 + 1)), (2, .int (x2 + q104)), (8, .int q104), (7, .int ((μ 3) (Int32.toNatClampNeg q69))), (6, .int ((μ 3) (Int32.toNatClampNeg q54))), (5, .int 0), (4, .int q27), (0, .ref (a 0)), (1, .int x1)]) dX6_closes_130 8 rfl (by first | rfl | decide) (by decide) rfl ?_
            refine v_goto X (pc := 133) (tgt := 9) dX6_closes_133 (by decide) ?_
            refine v_sub (L2 := [(0, .ref (a 0)), (1, .int x1), (2, .int (x2 + q104)), (3, .int (x3 + 1))]) [7, 8, 1, 0] rfl ?_
            exact ih q122 (x2 + q104) (x3 + 1) h F
      · replace h := hp c h
        refine v_iconst X (pc := 38) (v := 1) dX6_closes_38 (by decide) ?_
        refine v_goto X (pc := 39) (tgt := 43) dX6_closes_39 (by decide) ?_
        refine v_istore X (pc := 43) (L2 := [(5, .int 1), (4, .int q27), (0, .ref (a 0)), (1, .int x1), (2, .int x2), (3, .int x3)]) dX6_closes_43 (by decide) rfl ?_
        refine v_aload_n X (pc := 45) dX6_closes_45 rfl 2 rfl ?_
        refine v_get X (pc := 46) (v := .ref (a 3)) uw6 0 rfl rfl 5 (by decide) q_673 rfl rfl dX6_closes_46 ?_
        refine v_aload_n X (pc := 49) dX6_closes_49 rfl 2 rfl ?_
        refine v_iload X (pc := 50) dX6_closes_50 1 rfl ?_
        refine v_iload X (pc := 52) dX6_closes_52 0 rfl ?_
        obtain ⟨q54, e54, h⟩ := ob h
        refine v_callV X (pc := 54) (st1 := [.int q54, .ref (a 3)]) (w' := (wM x.g a μ)) [.int q27, .int (b2i true)] [.ref (a 3)] (c_X6_from x.l x.g a μ q27 true e54) rfl rfl cw_X6_from q_759 q_761 q_25 ⟨by decide, by decide⟩ 0 6 rfl rfl rfl (Fr.all rfl) rfl (Nat.le_of_ble_eq_true rfl) dX6_closes_54 ?_
        obtain ⟨g57, h⟩ := og h
        refine v_iald X (pc := 57) (v := ((μ 3) (Int32.toNatClampNeg q54))) 3 rfl (ib_in g57) rfl dX6_closes_57 ?_
        refine v_istore X (pc := 58) (L2 := [(6, .int ((μ 3) (Int32.toNatClampNeg q54))), (5, .int 1), (4, .int q27), (0, .ref (a 0)), (1, .int x1), (2, .int x2), (3, .int x3)]) dX6_closes_58 (by decide) rfl ?_
        refine v_aload_n X (pc := 60) dX6_closes_60 rfl 3 rfl ?_
        refine v_get X (pc := 61) (v := .ref (a 3)) uw6 0 rfl rfl 5 (by decide) q_673 rfl rfl dX6_closes_61 ?_
        refine v_aload_n X (pc := 64) dX6_closes_64 rfl 3 rfl ?_
        refine v_iload X (pc := 65) dX6_closes_65 2 rfl ?_
        refine v_iload X (pc := 67) dX6_closes_67 1 rfl ?_
        obtain ⟨q69, e69, h⟩ := ob h
        refine v_callV X (pc := 69) (st1 := [.int q69, .ref (a 3)]) (w' := (wM x.g a μ)) [.int q27, .int (b2i true)] [.ref (a 3)] (c_X6_to x.l x.g a μ q27 true e69) rfl rfl cw_X6_to q_763 q_765 q_26 ⟨by decide, by decide⟩ 0 6 rfl rfl rfl (Fr.all rfl) rfl (Nat.le_of_ble_eq_true rfl) dX6_closes_69 ?_
        obtain ⟨g72, h⟩ := og h
        refine v_iald X (pc := 72) (v := ((μ 3) (Int32.toNatClampNeg q69))) 3 rfl (ib_in g72) rfl dX6_closes_72 ?_
        refine v_istore X (pc := 73) (L2 := [(7, .int ((μ 3) (Int32.toNatClampNeg q69))), (6, .int ((μ 3) (Int32.toNatClampNeg q54))), (5, .int 1), (4, .int q27), (0, .ref (a 0)), (1, .int x1), (2, .int x2), (3, .int x3)]) dX6_closes_73 (by decide) rfl ?_
        refine v_iload X (pc := 75) dX6_closes_75 0 rfl ?_
        refine v_iflt X (pc := 77) (tgt := 110) dX6_closes_77 (by decide) (fun c => ?_) (fun c => ?_)
        · replace h := hp c h
          refine v_iconst X (pc := 110) (v := 0) dX6_closes_110 (by decide) ?_
          refine v_istore X (pc := 111) (L2 := [(8, .int 0), (7, .int ((μ 3) (Int32.toNatClampNeg q69))), (6, .int ((μ 3) (Int32.toNatClampNeg q54))), (5, .int 1), (4, .int q27), (0, .ref (a 0)), (1, .int x1), (2, .int x2), (3, .int x3)]) dX6_closes_111 (by decide) rfl ?_
          refine v_aload_n X (pc := 113) dX6_closes_113 rfl 5 rfl ?_
          refine v_iload_n X (pc := 114) dX6_closes_114 rfl 6 rfl ?_
          refine v_iload_n X (pc := 115) dX6_closes_115 rfl 8 rfl ?_
          refine v_iconst X (pc := 116) (v := 2) dX6_closes_116 (by decide) ?_
          refine v_idiv X (pc := 117) dX6_closes_117 (by decide) ?_
          refine v_iload X (pc := 118) dX6_closes_118 3 rfl ?_
          refine v_iload X (pc := 120) dX6_closes_120 0 rfl ?_
          obtain ⟨q122, e122, h⟩ := ob h
          refine v_callV X (pc := 122) (st1 := []) (w' := (wM x.g a q122)) [.int x1, .int (x3 / 2), .int (b2i true), .int 0] [] (c_X6_passes x.l x.g a μ x1 (x3 / 2) true 0 e122) rfl rfl cw_X6_passes q_771 q_773 q_28 ⟨by decide, by decide⟩ 0 6 rfl rfl rfl (Fr.all rfl) rfl (Nat.le_of_ble_eq_true rfl) dX6_closes_122 ?_
          refine v_iload_n X (pc := 125) dX6_closes_125 rfl 7 rfl ?_
          refine v_iload X (pc := 126) dX6_closes_126 0 rfl ?_
          refine v_iadd X (pc := 128) dX6_closes_128 ?_
          refine v_istore_n X (pc := 129) (L2 := [(2, .int (x2 + 0)), (8, .int 0), (7, .int ((μ 3) (Int32.toNatClampNeg q69))), (6, .int ((μ 3) (Int32.toNatClampNeg q54))), (5, .int 1), (4, .int q27), (0, .ref (a 0)), (1, .int x1), (3, .int x3)]) dX6_closes_129 rfl (by decide) rfl ?_
          refine v_iinc X (pc := 130) (v := (x3 + 1)) (L2 := [(3, .int (x3 + 1)), (2, .int (x2 + 0)), (8, .int 0), (7, .int ((μ 3) (Int32.toNatClampNeg q69))), (6, .int ((μ 3) (Int32.toNatClampNeg q54))), (5, .int 1), (4, .int q27), (0, .ref (a 0)), (1, .int x1)]) dX6_closes_130 8 rfl (by first | rfl | decide) (by decide) rfl ?_
          refine v_goto X (pc := 133) (tgt := 9) dX6_closes_133 (by decide) ?_
          refine v_sub (L2 := [(0, .ref (a 0)), (1, .int x1), (2, .int (x2 + 0)), (3, .int (x3 + 1))]) [7, 8, 1, 0] rfl ?_
          exact ih q122 (x2 + 0) (x3 + 1) h F
        · replace h := hn c h
          refine v_iload X (pc := 80) dX6_closes_80 1 rfl ?_
          refine v_iload X (pc := 82) dX6_closes_82 0 rfl ?_
          refine v_iconst X (pc := 84) (v := 1) dX6_closes_84 (by decide) ?_
          refine v_iadd X (pc := 85) dX6_closes_85 ?_
          refine v_icmpne X (pc := 86) (tgt := 110) dX6_closes_86 (by decide) (fun c => ?_) (fun c => ?_)
          · replace h := hn c h
            refine v_iconst X (pc := 110) (v := 0) dX6_closes_110 (by decide) ?_
            refine v_istore X (pc := 111) (L2 := [(8, .int 0), (7, .int ((μ 3) (Int32.toNatClampNeg q69))), (6, .int ((μ 3) (Int32.toNatClampNeg q54))), (5, .int 1), (4, .int q27), (0, .ref (a 0)), (1, .int x1), (2, .int x2), (3, .int x3)]) dX6_closes_111 (by decide) rfl ?_
            refine v_aload_n X (pc := 113) dX6_closes_113 rfl 5 rfl ?_
            refine v_iload_n X (pc := 114) dX6_closes_114 rfl 6 rfl ?_
            refine v_iload_n X (pc := 115) dX6_closes_115 rfl 8 rfl ?_
            refine v_iconst X (pc := 116) (v := 2) dX6_closes_116 (by decide) ?_
            refine v_idiv X (pc := 117) dX6_closes_117 (by decide) ?_
            refine v_iload X (pc := 118) dX6_closes_118 3 rfl ?_
            refine v_iload X (pc := 120) dX6_closes_120 0 rfl ?_
            obtain ⟨q122, e122, h⟩ := ob h
            refine v_callV X (pc := 122) (st1 := []) (w' := (wM x.g a q122)) [.int x1, .int (x3 / 2), .int (b2i true), .int 0] [] (c_X6_passes x.l x.g a μ x1 (x3 / 2) true 0 e122) rfl rfl cw_X6_passes q_771 q_773 q_28 ⟨by decide, by decide⟩ 0 6 rfl rfl rfl (Fr.all rfl) rfl (Nat.le_of_ble_eq_true rfl) dX6_closes_122 ?_
            refine v_iload_n X (pc := 125) dX6_closes_125 rfl 7 rfl ?_
            refine v_iload X (pc := 126) dX6_closes_126 0 rfl ?_
            refine v_iadd X (pc := 128) dX6_closes_128 ?_
            refine v_istore_n X (pc := 129) (L2 := [(2, .int (x2 + 0)), (8, .int 0), (7, .int ((μ 3) (Int32.toNatClampNeg q69))), (6, .int ((μ 3) (Int32.toNatClampNeg q54))), (5, .int 1), (4, .int q27), (0, .ref (a 0)), (1, .int x1), (3, .int x3)]) dX6_closes_129 rfl (by decide) rfl ?_
            refine v_iinc X (pc := 130) (v := (x3 + 1)) (L2 := [(3, .int (x3 + 1)), (2, .int (x2 + 0)), (8, .int 0), (7, .int ((μ 3) (Int32.toNatClampNeg q69))), (6, .int ((μ 3) (Int32.toNatClampNeg q54))), (5, .int 1), (4, .int q27), (0, .ref (a 0)), (1, .int x1)]) dX6_closes_130 8 rfl (by first | rfl | decide) (by decide) rfl ?_
            refine v_goto X (pc := 133) (tgt := 9) dX6_closes_133 (by decide) ?_
            refine v_sub (L2 := [(0, .ref (a 0)), (1, .int x1), (2, .int (x2 + 0)), (3, .int (x3 + 1))]) [7, 8, 1, 0] rfl ?_
            exact ih q122 (x2 + 0) (x3 + 1) h F
          · replace h := hp c h
            refine v_aload_n X (pc := 89) dX6_closes_89 rfl 4 rfl ?_
            refine v_iload_n X (pc := 90) dX6_closes_90 rfl 5 rfl ?_
            refine v_iload_n X (pc := 91) dX6_closes_91 rfl 7 rfl ?_
            refine v_iconst X (pc := 92) (v := 2) dX6_closes_92 (by decide) ?_
            refine v_idiv X (pc := 93) dX6_closes_93 (by decide) ?_
            refine v_iload X (pc := 94) dX6_closes_94 2 rfl ?_
            refine v_aload_n X (pc := 96) dX6_closes_96 rfl 4 rfl ?_
            refine v_get X (pc := 97) (v := .ref (a 1)) uw6 0 rfl rfl 0 (by decide) q_668 rfl rfl dX6_closes_97 ?_
            refine v_iload_n X (pc := 100) dX6_closes_100 rfl 5 rfl ?_
            refine v_iconst X (pc := 101) (v := 0) dX6_closes_101 (by decide) ?_
            refine v_iadd X (pc := 102) dX6_closes_102 ?_
            obtain ⟨g103, h⟩ := og h
            refine v_iald X (pc := 103) (v := ((μ 1) (Int32.toNatClampNeg (x1 + 0)))) 1 rfl (ib_in g103) rfl dX6_closes_103 ?_
            obtain ⟨q104, e104, h⟩ := ob h
            refine v_callV X (pc := 104) (st1 := [.int q104]) (w' := (wM x.g a μ)) [.int x1, .int (x3 / 2), .int (b2i true), .int ((μ 1) (Int32.toNatClampNeg (x1 + 0)))] [] (c_X6_atMost x.l x.g a μ x1 (x3 / 2) true ((μ 1) (Int32.toNatClampNeg (x1 + 0))) e104) rfl rfl cw_X6_atMost q_827 q_829 q_37 ⟨by decide, by decide⟩ 0 6 rfl rfl rfl (Fr.all rfl) rfl (Nat.le_of_ble_eq_true rfl) dX6_closes_104 ?_
            refine v_goto X (pc := 107) (tgt := 111) dX6_closes_107 (by decide) ?_
            refine v_istore X (pc := 111) (L2 := [(8, .int q104), (7, .int ((μ 3) (Int32.toNatClampNeg q69))), (6, .int ((μ 3) (Int32.toNatClampNeg q54))), (5, .int 1), (4, .int q27), (0, .ref (a 0)), (1, .int x1), (2, .int x2), (3, .int x3)]) dX6_closes_111 (by decide) rfl ?_
            refine v_aload_n X (pc := 113) dX6_closes_113 rfl 5 rfl ?_
            refine v_iload_n X (pc := 114) dX6_closes_114 rfl 6 rfl ?_
            refine v_iload_n X (pc := 115) dX6_closes_115 rfl 8 rfl ?_
            refine v_iconst X (pc := 116) (v := 2) dX6_closes_116 (by decide) ?_
            refine v_idiv X (pc := 117) dX6_closes_117 (by decide) ?_
            refine v_iload X (pc := 118) dX6_closes_118 3 rfl ?_
            refine v_iload X (pc := 120) dX6_closes_120 0 rfl ?_
            obtain ⟨q122, e122, h⟩ := ob h
            refine v_callV X (pc := 122) (st1 := []) (w' := (wM x.g a q122)) [.int x1, .int (x3 / 2), .int (b2i true), .int q104] [] (c_X6_passes x.l x.g a μ x1 (x3 / 2) true q104 e122) rfl rfl cw_X6_passes q_771 q_773 q_28 ⟨by decide, by decide⟩ 0 6 rfl rfl rfl (Fr.all rfl) rfl (Nat.le_of_ble_eq_true rfl) dX6_closes_122 ?_
            refine v_iload_n X (pc := 125) dX6_closes_125 rfl 7 rfl ?_
            refine v_iload X (pc := 126) dX6_closes_126 0 rfl ?_
            refine v_iadd X (pc := 128) dX6_closes_128 ?_
            refine v_istore_n X (pc := 129) (L2 := [(2, .int (x2 + q104)), (8, .int q104), (7, .int ((μ 3) (Int32.toNatClampNeg q69))), (6, .int ((μ 3) (Int32.toNatClampNeg q54))), (5, .int 1), (4, .int q27), (0, .ref (a 0)), (1, .int x1), (3, .int x3)]) dX6_closes_129 rfl (by decide) rfl ?_
            refine v_iinc X (pc := 130) (v := (x3 + 1)) (L2 := [(3, .int (x3 + 1)), (2, .int (x2 + q104)), (8, .int q104), (7, .int ((μ 3) (Int32.toNatClampNeg q69))), (6, .int ((μ 3) (Int32.toNatClampNeg q54))), (5, .int 1), (4, .int q27), (0, .ref (a 0)), (1, .int x1)]) dX6_closes_130 8 rfl (by first | rfl | decide) (by decide) rfl ?_
            refine v_goto X (pc := 133) (tgt := 9) dX6_closes_133 (by decide) ?_
            refine v_sub (L2 := [(0, .ref (a 0)), (1, .int x1), (2, .int (x2 + q104)), (3, .int (x3 + 1))]) [7, 8, 1, 0] rfl ?_
            exact ih q122 (x2 + q104) (x3 + 1) h F
def f_X6_closes (μ : Blk) (x1 : Int32) : Option (Int32 × Blk) :=
  (f_X6_distances μ x1).bind fun q2 => f_X6_closes_L9 x1 FU q2 0 0
set_option maxHeartbeats 4000000 in
set_option maxRecDepth 100000 in
theorem c_X6_closes (l : Launch) (g : Gl) (a : Nat → Nat) (μ : Blk) (x1 : Int32) {res : Int32 × Blk} (h : f_X6_closes μ x1 = some res) : Ok l g yX6_closes cX6_closes 9 (Option.some FieldType.int) 2 53 [.ref (a 0), .int x1] (wM g a μ) (some (.int res.1)) (wM g a res.2) := by
  refine Ok.of RX6 (by decide) rfl (Nat.le_of_ble_eq_true rfl) (fun x hl hg X F => ?_)
  subst hg; subst hl
  rw [f_X6_closes] at h
  show V x (wM x.g a μ) [(0, .ref (a 0)), (1, .int x1)] [] 0
  refine v_aload_n X (pc := 0) dX6_closes_0 rfl 0 rfl ?_
  refine v_iload_n X (pc := 1) dX6_closes_1 rfl 1 rfl ?_
  obtain ⟨q2, e2, h⟩ := ob h
  refine v_callV X (pc := 2) (st1 := []) (w' := (wM x.g a q2)) [.int x1] [] (c_X6_distances x.l x.g a μ x1 e2) rfl rfl cw_X6_distances q_822 q_824 q_36 ⟨by decide, by decide⟩ 0 6 rfl rfl rfl (Fr.all rfl) rfl (Nat.le_of_ble_eq_true rfl) dX6_closes_2 ?_
  refine v_iconst X (pc := 5) (v := 0) dX6_closes_5 (by decide) ?_
  refine v_istore_n X (pc := 6) (L2 := [(2, .int 0), (0, .ref (a 0)), (1, .int x1)]) dX6_closes_6 rfl (by decide) rfl ?_
  refine v_iconst X (pc := 7) (v := 0) dX6_closes_7 (by decide) ?_
  refine v_istore_n X (pc := 8) (L2 := [(3, .int 0), (2, .int 0), (0, .ref (a 0)), (1, .int x1)]) dX6_closes_8 rfl (by decide) rfl ?_
  refine v_sub (L2 := [(0, .ref (a 0)), (1, .int x1), (2, .int 0), (3, .int 0)]) [2, 3, 1, 0] rfl ?_
  exact v_X6_closes_L9 X a x1 FU q2 0 0 h F
theorem cw_X6_closes : CwB yX6_closes cX6_closes 9 (Option.some FieldType.int) 1 := ⟨q_821, q_57, by decide, by decide, by decide +kernel⟩
def f_X6_people_L4 (μ : Blk) (x1 : Int32) : Nat → Int32 → Int32 → Option (Int32)
  | 0, _, _ => none
  | n + 1, x2, x3 =>
    (if 6 ≤ x3 then some x2 else (if ib ((x1 + 10) + x3) 2048 = true then f_X6_people_L4 μ x1 n (x2 + ((μ 1) (Int32.toNatClampNeg ((x1 + 10) + x3)))) (x3 + 1) else none))
set_option maxHeartbeats 4000000 in
set_option maxRecDepth 100000 in
theorem v_X6_people_L4 {x : Ctx} (X : Cx x RX6 cX6_people 4 0 0) (a : Nat → Nat) (μ : Blk) (x1 : Int32) : ∀ (n : Nat) (x2 : Int32) (x3 : Int32) {res : Int32}, f_X6_people_L4 μ x1 n x2 x3 = some res → Fn x (Option.some FieldType.int) (some (.int res)) (wM x.g a μ) → V x (wM x.g a μ) [(0, .ref (a 0)), (1, .int x1), (2, .int x2), (3, .int x3)] [] 4 := by
  intro n
  induction n with
  | zero =>
    intro x2 x3 res h F
    rw [f_X6_people_L4] at h
    cases h
  | succ n ih =>
    intro x2 x3 res h F
    rw [f_X6_people_L4] at h
    refine v_iload_n X (pc := 4) dX6_people_4 rfl 3 rfl ?_
    refine v_bipush X (pc := 5) (v := 6) dX6_people_5 (by decide) ?_
    refine v_icmpge X (pc := 7) (tgt := 30) dX6_people_7 (by decide) (fun c => ?_) (fun c => ?_)
    · replace h := hp c h
      refine v_iload_n X (pc := 30) dX6_people_30 rfl 2 rfl ?_
      replace h := oi h
      subst h
      exact v_iret X (pc := 31) F dX6_people_31
    · replace h := hn c h
      refine v_iload_n X (pc := 10) dX6_people_10 rfl 2 rfl ?_
      refine v_aload_n X (pc := 11) dX6_people_11 rfl 0 rfl ?_
      refine v_get X (pc := 12) (v := .ref (a 1)) uw6 0 rfl rfl 0 (by decide) q_668 rfl rfl dX6_people_12 ?_
      refine v_iload_n X (pc := 15) dX6_people_15 rfl 1 rfl ?_
      refine v_bipush X (pc := 16) (v := 10) dX6_people_16 (by decide) ?_
      refine v_iadd X (pc := 18) dX6_people_18 ?_
      refine v_iload_n X (pc := 19) dX6_people_19 rfl 3 rfl ?_
      refine v_iadd X (pc := 20) dX6_people_20 ?_
      obtain ⟨g21, h⟩ := og h
      refine v_iald X (pc := 21) (v := ((μ 1) (Int32.toNatClampNeg ((x1 + 10) + x3)))) 1 rfl (ib_in g21) rfl dX6_people_21 ?_
      refine v_iadd X (pc := 22) dX6_people_22 ?_
      refine v_istore_n X (pc := 23) (L2 := [(2, .int (x2 + ((μ 1) (Int32.toNatClampNeg ((x1 + 10) + x3))))), (0, .ref (a 0)), (1, .int x1), (3, .int x3)]) dX6_people_23 rfl (by decide) rfl ?_
      refine v_iinc X (pc := 24) (v := (x3 + 1)) (L2 := [(3, .int (x3 + 1)), (2, .int (x2 + ((μ 1) (Int32.toNatClampNeg ((x1 + 10) + x3))))), (0, .ref (a 0)), (1, .int x1)]) dX6_people_24 3 rfl (by first | rfl | decide) (by decide) rfl ?_
      refine v_goto X (pc := 27) (tgt := 4) dX6_people_27 (by decide) ?_
      refine v_sub (L2 := [(0, .ref (a 0)), (1, .int x1), (2, .int (x2 + ((μ 1) (Int32.toNatClampNeg ((x1 + 10) + x3))))), (3, .int (x3 + 1))]) [2, 3, 1, 0] rfl ?_
      exact ih (x2 + ((μ 1) (Int32.toNatClampNeg ((x1 + 10) + x3)))) (x3 + 1) h F
def f_X6_people (μ : Blk) (x1 : Int32) : Option (Int32) :=
  f_X6_people_L4 μ x1 FU 0 1
set_option maxHeartbeats 4000000 in
set_option maxRecDepth 100000 in
theorem c_X6_people (l : Launch) (g : Gl) (a : Nat → Nat) (μ : Blk) (x1 : Int32) {res : Int32} (h : f_X6_people μ x1 = some res) : Ok l g yX6_people cX6_people 4 (Option.some FieldType.int) 0 0 [.ref (a 0), .int x1] (wM g a μ) (some (.int res)) (wM g a μ) := by
  refine Ok.of RX6 (by decide) rfl (Nat.le_of_ble_eq_true rfl) (fun x hl hg X F => ?_)
  subst hg; subst hl
  rw [f_X6_people] at h
  show V x (wM x.g a μ) [(0, .ref (a 0)), (1, .int x1)] [] 0
  refine v_iconst X (pc := 0) (v := 0) dX6_people_0 (by decide) ?_
  refine v_istore_n X (pc := 1) (L2 := [(2, .int 0), (0, .ref (a 0)), (1, .int x1)]) dX6_people_1 rfl (by decide) rfl ?_
  refine v_iconst X (pc := 2) (v := 1) dX6_people_2 (by decide) ?_
  refine v_istore_n X (pc := 3) (L2 := [(3, .int 1), (2, .int 0), (0, .ref (a 0)), (1, .int x1)]) dX6_people_3 rfl (by decide) rfl ?_
  refine v_sub (L2 := [(0, .ref (a 0)), (1, .int x1), (2, .int 0), (3, .int 1)]) [2, 3, 1, 0] rfl ?_
  exact v_X6_people_L4 X a μ x1 FU 0 1 h F
theorem cw_X6_people : CwB yX6_people cX6_people 4 (Option.some FieldType.int) 1 := ⟨q_834, q_57, by decide, by decide, by decide +kernel⟩
