def f_X5_counterIndex (x0 : Int32) (x1 : Int32) : Int32 :=
  ((x0 * 4) + x1)
set_option maxHeartbeats 4000000 in
set_option maxRecDepth 100000 in
theorem c_X5_counterIndex (l : Launch) (g : Gl)  (x0 : Int32) (x1 : Int32) {res : Int32} (h : f_X5_counterIndex x0 x1 = res) : Ok l g yX5_counterIndex cX5_counterIndex 2 (Option.some FieldType.int) 0 0 [.int x0, .int x1] ([] : va_W) (some (.int res)) ([] : va_W) := by
  refine Ok.of RX5 (by decide) rfl (Nat.le_of_ble_eq_true rfl) (fun x hl hg X F => ?_)
  subst hg; subst hl
  rw [f_X5_counterIndex] at h
  show V x ([] : va_W) [(0, .int x0), (1, .int x1)] [] 0
  refine v_iload_n X (pc := 0) dX5_counterIndex_0 rfl 0 rfl ?_
  refine v_iconst X (pc := 1) (v := 4) dX5_counterIndex_1 (by decide) ?_
  refine v_imul X (pc := 2) dX5_counterIndex_2 ?_
  refine v_iload_n X (pc := 3) dX5_counterIndex_3 rfl 1 rfl ?_
  refine v_iadd X (pc := 4) dX5_counterIndex_4 ?_
  subst h
  exact v_iret X (pc := 5) F dX5_counterIndex_5
theorem cw_X5_counterIndex : CwB yX5_counterIndex cX5_counterIndex 2 (Option.some FieldType.int) 2 := ⟨q_252, q_14, by decide, by decide, by decide +kernel⟩
def f_X5_isHall (x0 : Int32) : Bool :=
  (if x0 < 0 then false else (if 6 ≤ x0 then false else true))
set_option maxHeartbeats 4000000 in
set_option maxRecDepth 100000 in
theorem c_X5_isHall (l : Launch) (g : Gl)  (x0 : Int32) {res : Bool} (h : f_X5_isHall x0 = res) : Ok l g yX5_isHall cX5_isHall 1 (Option.some FieldType.boolean) 0 0 [.int x0] ([] : va_W) (some (.int (b2i res))) ([] : va_W) := by
  refine Ok.of RX5 (by decide) rfl (Nat.le_of_ble_eq_true rfl) (fun x hl hg X F => ?_)
  subst hg; subst hl
  rw [f_X5_isHall] at h
  show V x ([] : va_W) [(0, .int x0)] [] 0
  refine v_iload_n X (pc := 0) dX5_isHall_0 rfl 0 rfl ?_
  refine v_iflt X (pc := 1) (tgt := 14) dX5_isHall_1 (by decide) (fun c => ?_) (fun c => ?_)
  · replace h := hp c h
    refine v_iconst X (pc := 14) (v := 0) dX5_isHall_14 (by decide) ?_
    subst h
    exact v_bret X (pc := 15) (b := false) F dX5_isHall_15
  · replace h := hn c h
    refine v_iload_n X (pc := 4) dX5_isHall_4 rfl 0 rfl ?_
    refine v_bipush X (pc := 5) (v := 6) dX5_isHall_5 (by decide) ?_
    refine v_icmpge X (pc := 7) (tgt := 14) dX5_isHall_7 (by decide) (fun c => ?_) (fun c => ?_)
    · replace h := hp c h
      refine v_iconst X (pc := 14) (v := 0) dX5_isHall_14 (by decide) ?_
      subst h
      exact v_bret X (pc := 15) (b := false) F dX5_isHall_15
    · replace h := hn c h
      refine v_iconst X (pc := 10) (v := 1) dX5_isHall_10 (by decide) ?_
      refine v_goto X (pc := 11) (tgt := 15) dX5_isHall_11 (by decide) ?_
      subst h
      exact v_bret X (pc := 15) (b := true) F dX5_isHall_15
theorem cw_X5_isHall : CwB yX5_isHall cX5_isHall 1 (Option.some FieldType.boolean) 1 := ⟨q_322, q_14, by decide, by decide, by decide +kernel⟩
def f_X5_isHallWithRoom (x0 : Int32) : Bool :=
  lt (f_X5_isHall x0) fun q1 => (if q1 = true then (if x0 = 0 then false else true) else false)
set_option maxHeartbeats 4000000 in
set_option maxRecDepth 100000 in
theorem c_X5_isHallWithRoom (l : Launch) (g : Gl)  (x0 : Int32) {res : Bool} (h : f_X5_isHallWithRoom x0 = res) : Ok l g yX5_isHallWithRoom cX5_isHallWithRoom 1 (Option.some FieldType.boolean) 1 20 [.int x0] ([] : va_W) (some (.int (b2i res))) ([] : va_W) := by
  refine Ok.of RX5 (by decide) rfl (Nat.le_of_ble_eq_true rfl) (fun x hl hg X F => ?_)
  subst hg; subst hl
  rw [f_X5_isHallWithRoom] at h
  show V x ([] : va_W) [(0, .int x0)] [] 0
  refine v_iload_n X (pc := 0) dX5_isHallWithRoom_0 rfl 0 rfl ?_
  obtain ⟨q1, e1, h⟩ := lts h
  refine v_callS X (pc := 1) (st1 := [.int (b2i q1)]) (w' := ([] : va_W)) [.int x0] [] (c_X5_isHall x.l x.g  x0 e1) rfl rfl cw_X5_isHall q_320 q_321 ⟨by decide, by decide⟩ Fr.nil rfl (Nat.le_of_ble_eq_true rfl) dX5_isHallWithRoom_1 ?_
  refine v_ifeqB X (pc := 4) (tgt := 15) dX5_isHallWithRoom_4 (by decide) (fun c => ?_) (fun c => ?_)
  · replace h := hn (nbt c) h
    refine v_iconst X (pc := 15) (v := 0) dX5_isHallWithRoom_15 (by decide) ?_
    subst h
    exact v_bret X (pc := 16) (b := false) F dX5_isHallWithRoom_16
  · replace h := hp c h
    refine v_iload_n X (pc := 7) dX5_isHallWithRoom_7 rfl 0 rfl ?_
    refine v_ifeq X (pc := 8) (tgt := 15) dX5_isHallWithRoom_8 (by decide) (fun c => ?_) (fun c => ?_)
    · replace h := hp c h
      refine v_iconst X (pc := 15) (v := 0) dX5_isHallWithRoom_15 (by decide) ?_
      subst h
      exact v_bret X (pc := 16) (b := false) F dX5_isHallWithRoom_16
    · replace h := hn c h
      refine v_iconst X (pc := 11) (v := 1) dX5_isHallWithRoom_11 (by decide) ?_
      refine v_goto X (pc := 12) (tgt := 16) dX5_isHallWithRoom_12 (by decide) ?_
      subst h
      exact v_bret X (pc := 16) (b := true) F dX5_isHallWithRoom_16
theorem cw_X5_isHallWithRoom : CwB yX5_isHallWithRoom cX5_isHallWithRoom 1 (Option.some FieldType.boolean) 1 := ⟨q_342, q_14, by decide, by decide, by decide +kernel⟩
def f_X5_isCounter (x0 : Int32) : Bool :=
  (if x0 < 0 then false else (if 4 ≤ x0 then false else true))
set_option maxHeartbeats 4000000 in
set_option maxRecDepth 100000 in
theorem c_X5_isCounter (l : Launch) (g : Gl)  (x0 : Int32) {res : Bool} (h : f_X5_isCounter x0 = res) : Ok l g yX5_isCounter cX5_isCounter 1 (Option.some FieldType.boolean) 0 0 [.int x0] ([] : va_W) (some (.int (b2i res))) ([] : va_W) := by
  refine Ok.of RX5 (by decide) rfl (Nat.le_of_ble_eq_true rfl) (fun x hl hg X F => ?_)
  subst hg; subst hl
  rw [f_X5_isCounter] at h
  show V x ([] : va_W) [(0, .int x0)] [] 0
  refine v_iload_n X (pc := 0) dX5_isCounter_0 rfl 0 rfl ?_
  refine v_iflt X (pc := 1) (tgt := 13) dX5_isCounter_1 (by decide) (fun c => ?_) (fun c => ?_)
  · replace h := hp c h
    refine v_iconst X (pc := 13) (v := 0) dX5_isCounter_13 (by decide) ?_
    subst h
    exact v_bret X (pc := 14) (b := false) F dX5_isCounter_14
  · replace h := hn c h
    refine v_iload_n X (pc := 4) dX5_isCounter_4 rfl 0 rfl ?_
    refine v_iconst X (pc := 5) (v := 4) dX5_isCounter_5 (by decide) ?_
    refine v_icmpge X (pc := 6) (tgt := 13) dX5_isCounter_6 (by decide) (fun c => ?_) (fun c => ?_)
    · replace h := hp c h
      refine v_iconst X (pc := 13) (v := 0) dX5_isCounter_13 (by decide) ?_
      subst h
      exact v_bret X (pc := 14) (b := false) F dX5_isCounter_14
    · replace h := hn c h
      refine v_iconst X (pc := 9) (v := 1) dX5_isCounter_9 (by decide) ?_
      refine v_goto X (pc := 10) (tgt := 14) dX5_isCounter_10 (by decide) ?_
      subst h
      exact v_bret X (pc := 14) (b := true) F dX5_isCounter_14
theorem cw_X5_isCounter : CwB yX5_isCounter cX5_isCounter 1 (Option.some FieldType.boolean) 1 := ⟨q_349, q_14, by decide, by decide, by decide +kernel⟩
def f_X5_isSlip (x0 : Int32) : Bool :=
  (if x0 = 0 then true else (if x0 < 2 then false else (if 9 < x0 then false else true)))
set_option maxHeartbeats 4000000 in
set_option maxRecDepth 100000 in
theorem c_X5_isSlip (l : Launch) (g : Gl)  (x0 : Int32) {res : Bool} (h : f_X5_isSlip x0 = res) : Ok l g yX5_isSlip cX5_isSlip 1 (Option.some FieldType.boolean) 0 0 [.int x0] ([] : va_W) (some (.int (b2i res))) ([] : va_W) := by
  refine Ok.of RX5 (by decide) rfl (Nat.le_of_ble_eq_true rfl) (fun x hl hg X F => ?_)
  subst hg; subst hl
  rw [f_X5_isSlip] at h
  show V x ([] : va_W) [(0, .int x0)] [] 0
  refine v_iload_n X (pc := 0) dX5_isSlip_0 rfl 0 rfl ?_
  refine v_ifeq X (pc := 1) (tgt := 15) dX5_isSlip_1 (by decide) (fun c => ?_) (fun c => ?_)
  · replace h := hp c h
    refine v_iconst X (pc := 15) (v := 1) dX5_isSlip_15 (by decide) ?_
    refine v_goto X (pc := 16) (tgt := 20) dX5_isSlip_16 (by decide) ?_
    subst h
    exact v_bret X (pc := 20) (b := true) F dX5_isSlip_20
  · replace h := hn c h
    refine v_iload_n X (pc := 4) dX5_isSlip_4 rfl 0 rfl ?_
    refine v_iconst X (pc := 5) (v := 2) dX5_isSlip_5 (by decide) ?_
    refine v_icmplt X (pc := 6) (tgt := 19) dX5_isSlip_6 (by decide) (fun c => ?_) (fun c => ?_)
    · replace h := hp c h
      refine v_iconst X (pc := 19) (v := 0) dX5_isSlip_19 (by decide) ?_
      subst h
      exact v_bret X (pc := 20) (b := false) F dX5_isSlip_20
    · replace h := hn c h
      refine v_iload_n X (pc := 9) dX5_isSlip_9 rfl 0 rfl ?_
      refine v_bipush X (pc := 10) (v := 9) dX5_isSlip_10 (by decide) ?_
      refine v_icmpgt X (pc := 12) (tgt := 19) dX5_isSlip_12 (by decide) (fun c => ?_) (fun c => ?_)
      · replace h := hp c h
        refine v_iconst X (pc := 19) (v := 0) dX5_isSlip_19 (by decide) ?_
        subst h
        exact v_bret X (pc := 20) (b := false) F dX5_isSlip_20
      · replace h := hn c h
        refine v_iconst X (pc := 15) (v := 1) dX5_isSlip_15 (by decide) ?_
        refine v_goto X (pc := 16) (tgt := 20) dX5_isSlip_16 (by decide) ?_
        subst h
        exact v_bret X (pc := 20) (b := true) F dX5_isSlip_20
theorem cw_X5_isSlip : CwB yX5_isSlip cX5_isSlip 1 (Option.some FieldType.boolean) 1 := ⟨q_352, q_14, by decide, by decide, by decide +kernel⟩
def f_X5_isManyPeople (x0 : Int32) : Bool :=
  (if x0 < 1 then false else (if 99 < x0 then false else true))
set_option maxHeartbeats 4000000 in
set_option maxRecDepth 100000 in
theorem c_X5_isManyPeople (l : Launch) (g : Gl)  (x0 : Int32) {res : Bool} (h : f_X5_isManyPeople x0 = res) : Ok l g yX5_isManyPeople cX5_isManyPeople 1 (Option.some FieldType.boolean) 0 0 [.int x0] ([] : va_W) (some (.int (b2i res))) ([] : va_W) := by
  refine Ok.of RX5 (by decide) rfl (Nat.le_of_ble_eq_true rfl) (fun x hl hg X F => ?_)
  subst hg; subst hl
  rw [f_X5_isManyPeople] at h
  show V x ([] : va_W) [(0, .int x0)] [] 0
  refine v_iload_n X (pc := 0) dX5_isManyPeople_0 rfl 0 rfl ?_
  refine v_iconst X (pc := 1) (v := 1) dX5_isManyPeople_1 (by decide) ?_
  refine v_icmplt X (pc := 2) (tgt := 15) dX5_isManyPeople_2 (by decide) (fun c => ?_) (fun c => ?_)
  · replace h := hp c h
    refine v_iconst X (pc := 15) (v := 0) dX5_isManyPeople_15 (by decide) ?_
    subst h
    exact v_bret X (pc := 16) (b := false) F dX5_isManyPeople_16
  · replace h := hn c h
    refine v_iload_n X (pc := 5) dX5_isManyPeople_5 rfl 0 rfl ?_
    refine v_bipush X (pc := 6) (v := 99) dX5_isManyPeople_6 (by decide) ?_
    refine v_icmpgt X (pc := 8) (tgt := 15) dX5_isManyPeople_8 (by decide) (fun c => ?_) (fun c => ?_)
    · replace h := hp c h
      refine v_iconst X (pc := 15) (v := 0) dX5_isManyPeople_15 (by decide) ?_
      subst h
      exact v_bret X (pc := 16) (b := false) F dX5_isManyPeople_16
    · replace h := hn c h
      refine v_iconst X (pc := 11) (v := 1) dX5_isManyPeople_11 (by decide) ?_
      refine v_goto X (pc := 12) (tgt := 16) dX5_isManyPeople_12 (by decide) ?_
      subst h
      exact v_bret X (pc := 16) (b := true) F dX5_isManyPeople_16
theorem cw_X5_isManyPeople : CwB yX5_isManyPeople cX5_isManyPeople 1 (Option.some FieldType.boolean) 1 := ⟨q_496, q_14, by decide, by decide, by decide +kernel⟩
def f_X5_isManyHours (x0 : Int32) : Bool :=
  (if x0 < 1 then false else (if 99 < x0 then false else true))
set_option maxHeartbeats 4000000 in
set_option maxRecDepth 100000 in
theorem c_X5_isManyHours (l : Launch) (g : Gl)  (x0 : Int32) {res : Bool} (h : f_X5_isManyHours x0 = res) : Ok l g yX5_isManyHours cX5_isManyHours 1 (Option.some FieldType.boolean) 0 0 [.int x0] ([] : va_W) (some (.int (b2i res))) ([] : va_W) := by
  refine Ok.of RX5 (by decide) rfl (Nat.le_of_ble_eq_true rfl) (fun x hl hg X F => ?_)
  subst hg; subst hl
  rw [f_X5_isManyHours] at h
  show V x ([] : va_W) [(0, .int x0)] [] 0
  refine v_iload_n X (pc := 0) dX5_isManyHours_0 rfl 0 rfl ?_
  refine v_iconst X (pc := 1) (v := 1) dX5_isManyHours_1 (by decide) ?_
  refine v_icmplt X (pc := 2) (tgt := 15) dX5_isManyHours_2 (by decide) (fun c => ?_) (fun c => ?_)
  · replace h := hp c h
    refine v_iconst X (pc := 15) (v := 0) dX5_isManyHours_15 (by decide) ?_
    subst h
    exact v_bret X (pc := 16) (b := false) F dX5_isManyHours_16
  · replace h := hn c h
    refine v_iload_n X (pc := 5) dX5_isManyHours_5 rfl 0 rfl ?_
    refine v_bipush X (pc := 6) (v := 99) dX5_isManyHours_6 (by decide) ?_
    refine v_icmpgt X (pc := 8) (tgt := 15) dX5_isManyHours_8 (by decide) (fun c => ?_) (fun c => ?_)
    · replace h := hp c h
      refine v_iconst X (pc := 15) (v := 0) dX5_isManyHours_15 (by decide) ?_
      subst h
      exact v_bret X (pc := 16) (b := false) F dX5_isManyHours_16
    · replace h := hn c h
      refine v_iconst X (pc := 11) (v := 1) dX5_isManyHours_11 (by decide) ?_
      refine v_goto X (pc := 12) (tgt := 16) dX5_isManyHours_12 (by decide) ?_
      subst h
      exact v_bret X (pc := 16) (b := true) F dX5_isManyHours_16
theorem cw_X5_isManyHours : CwB yX5_isManyHours cX5_isManyHours 1 (Option.some FieldType.boolean) 1 := ⟨q_392, q_14, by decide, by decide, by decide +kernel⟩
def f_X5_at (n1 : Nat) (f1 : Row) (x1 : Int32) : Option (Int32) :=
  (if x1 < 0 then some 0 else (if (nI n1) ≤ x1 then some 0 else (if ib x1 n1 = true then some (f1 (Int32.toNatClampNeg x1)) else none)))
set_option maxHeartbeats 4000000 in
set_option maxRecDepth 100000 in
theorem c_X5_at (l : Launch) (g : Gl) (b1 : Nat) (n1 : Nat) (f1 : Row) (x1 : Int32) {res : Int32} (h : f_X5_at n1 f1 x1 = some res) : Ok l g yX5_at cX5_at 2 (Option.some FieldType.int) 0 0 [.ref b1, .int x1] ([wRow g b1 n1 f1]) (some (.int res)) ([wRow g b1 n1 f1]) := by
  refine Ok.of RX5 (by decide) rfl (Nat.le_of_ble_eq_true rfl) (fun x hl hg X F => ?_)
  subst hg; subst hl
  rw [f_X5_at] at h
  show V x ([wRow x.g b1 n1 f1]) [(0, .ref b1), (1, .int x1)] [] 0
  refine v_iload_n X (pc := 0) dX5_at_0 rfl 1 rfl ?_
  refine v_iflt X (pc := 1) (tgt := 16) dX5_at_1 (by decide) (fun c => ?_) (fun c => ?_)
  · replace h := hp c h
    refine v_iconst X (pc := 16) (v := 0) dX5_at_16 (by decide) ?_
    replace h := oi h
    subst h
    exact v_iret X (pc := 17) F dX5_at_17
  · replace h := hn c h
    refine v_iload_n X (pc := 4) dX5_at_4 rfl 1 rfl ?_
    refine v_aload_n X (pc := 5) dX5_at_5 rfl 0 rfl ?_
    refine v_alen X (pc := 6) 0 rfl dX5_at_6 ?_
    refine v_icmpge X (pc := 7) (tgt := 16) dX5_at_7 (by decide) (fun c => ?_) (fun c => ?_)
    · replace h := hp c h
      refine v_iconst X (pc := 16) (v := 0) dX5_at_16 (by decide) ?_
      replace h := oi h
      subst h
      exact v_iret X (pc := 17) F dX5_at_17
    · replace h := hn c h
      refine v_aload_n X (pc := 10) dX5_at_10 rfl 0 rfl ?_
      refine v_iload_n X (pc := 11) dX5_at_11 rfl 1 rfl ?_
      obtain ⟨g12, h⟩ := og h
      refine v_iald X (pc := 12) (v := (f1 (Int32.toNatClampNeg x1))) 0 rfl (ib_in g12) rfl dX5_at_12 ?_
      refine v_goto X (pc := 13) (tgt := 17) dX5_at_13 (by decide) ?_
      replace h := oi h
      subst h
      exact v_iret X (pc := 17) F dX5_at_17
theorem cw_X5_at : CwB yX5_at cX5_at 2 (Option.some FieldType.int) 2 := ⟨q_222, q_14, by decide, by decide, by decide +kernel⟩
def f_X5_put (n1 : Nat) (f1 : Row) (x1 : Int32) (x2 : Int32) : Option (Row) :=
  (if x1 < 0 then some f1 else (if (nI n1) ≤ x1 then some f1 else (if ib x1 n1 = true then lt (upd f1 (Int32.toNatClampNeg x1) x2) fun m13 => some m13 else none)))
set_option maxHeartbeats 4000000 in
set_option maxRecDepth 100000 in
theorem c_X5_put (l : Launch) (g : Gl) (b1 : Nat) (n1 : Nat) (f1 : Row) (x1 : Int32) (x2 : Int32) {res : Row} (h : f_X5_put n1 f1 x1 x2 = some res) : Ok l g yX5_put cX5_put 3 (Option.none : Option FieldType) 0 0 [.ref b1, .int x1, .int x2] ([wRow g b1 n1 f1]) none ([wRow g b1 n1 res]) := by
  refine Ok.of RX5 (by decide) rfl (Nat.le_of_ble_eq_true rfl) (fun x hl hg X F => ?_)
  subst hg; subst hl
  rw [f_X5_put] at h
  show V x ([wRow x.g b1 n1 f1]) [(0, .ref b1), (1, .int x1), (2, .int x2)] [] 0
  refine v_iload_n X (pc := 0) dX5_put_0 rfl 1 rfl ?_
  refine v_iflt X (pc := 1) (tgt := 14) dX5_put_1 (by decide) (fun c => ?_) (fun c => ?_)
  · replace h := hp c h
    replace h := oi h
    subst h
    exact v_vret X (pc := 14) F dX5_put_14
  · replace h := hn c h
    refine v_iload_n X (pc := 4) dX5_put_4 rfl 1 rfl ?_
    refine v_aload_n X (pc := 5) dX5_put_5 rfl 0 rfl ?_
    refine v_alen X (pc := 6) 0 rfl dX5_put_6 ?_
    refine v_icmpge X (pc := 7) (tgt := 14) dX5_put_7 (by decide) (fun c => ?_) (fun c => ?_)
    · replace h := hp c h
      replace h := oi h
      subst h
      exact v_vret X (pc := 14) F dX5_put_14
    · replace h := hn c h
      refine v_aload_n X (pc := 10) dX5_put_10 rfl 0 rfl ?_
      refine v_iload_n X (pc := 11) dX5_put_11 rfl 1 rfl ?_
      refine v_iload_n X (pc := 12) dX5_put_12 rfl 2 rfl ?_
      obtain ⟨g13, h⟩ := og h
      obtain ⟨m13, em13, h⟩ := lts h
      refine v_iast X (pc := 13) (w' := ([wRow x.g b1 n1 m13])) 0 rfl (ib_in g13) (by rw [← em13]; rfl) dX5_put_13 ?_
      replace h := oi h
      subst h
      exact v_vret X (pc := 14) F dX5_put_14
theorem cw_X5_put : CwB yX5_put cX5_put 3 (Option.none : Option FieldType) 3 := ⟨q_330, q_14, by decide, by decide, by decide +kernel⟩
def f_X5_add (n1 : Nat) (f1 : Row) (x1 : Int32) (x2 : Int32) : Option (Row) :=
  (f_X5_at n1 f1 x1).bind fun q4 => (f_X5_put n1 f1 x1 (q4 + x2)).bind fun q9 => some q9
set_option maxHeartbeats 4000000 in
set_option maxRecDepth 100000 in
theorem c_X5_add (l : Launch) (g : Gl) (b1 : Nat) (n1 : Nat) (f1 : Row) (x1 : Int32) (x2 : Int32) {res : Row} (h : f_X5_add n1 f1 x1 x2 = some res) : Ok l g yX5_add cX5_add 3 (Option.none : Option FieldType) 1 22 [.ref b1, .int x1, .int x2] ([wRow g b1 n1 f1]) none ([wRow g b1 n1 res]) := by
  refine Ok.of RX5 (by decide) rfl (Nat.le_of_ble_eq_true rfl) (fun x hl hg X F => ?_)
  subst hg; subst hl
  rw [f_X5_add] at h
  show V x ([wRow x.g b1 n1 f1]) [(0, .ref b1), (1, .int x1), (2, .int x2)] [] 0
  refine v_aload_n X (pc := 0) dX5_add_0 rfl 0 rfl ?_
  refine v_iload_n X (pc := 1) dX5_add_1 rfl 1 rfl ?_
  refine v_aload_n X (pc := 2) dX5_add_2 rfl 0 rfl ?_
  refine v_iload_n X (pc := 3) dX5_add_3 rfl 1 rfl ?_
  obtain ⟨q4, e4, h⟩ := ob h
  refine v_callS X (pc := 4) (st1 := [.int q4, .int x1, .ref b1]) (w' := ([wRow x.g b1 n1 f1])) [.ref b1, .int x1] [.int x1, .ref b1] (c_X5_at x.l x.g b1 n1 f1 x1 e4) rfl rfl cw_X5_at q_241 q_221 ⟨by decide, by decide⟩ (Fr.all rfl) rfl (Nat.le_of_ble_eq_true rfl) dX5_add_4 ?_
  refine v_iload_n X (pc := 7) dX5_add_7 rfl 2 rfl ?_
  refine v_iadd X (pc := 8) dX5_add_8 ?_
  obtain ⟨q9, e9, h⟩ := ob h
  refine v_callS X (pc := 9) (st1 := []) (w' := ([wRow x.g b1 n1 q9])) [.ref b1, .int x1, .int (q4 + x2)] [] (c_X5_put x.l x.g b1 n1 f1 x1 (q4 + x2) e9) rfl rfl cw_X5_put q_335 q_329 ⟨by decide, by decide⟩ (Fr.all rfl) rfl (Nat.le_of_ble_eq_true rfl) dX5_add_9 ?_
  replace h := oi h
  subst h
  exact v_vret X (pc := 12) F dX5_add_12
theorem cw_X5_add : CwB yX5_add cX5_add 3 (Option.none : Option FieldType) 3 := ⟨q_403, q_14, by decide, by decide, by decide +kernel⟩
def f_X5_copyRow_L2 (n1 : Nat) (n2 : Nat) (f1 : Row) : Nat → Row → Int32 → Option (Row)
  | 0, _, _ => none
  | n + 1, f2, x2 =>
    (if (nI n1) ≤ x2 then some f2 else (if (nI n2) ≤ x2 then some f2 else (if ib x2 n1 = true then (if ib x2 n2 = true then lt (upd f2 (Int32.toNatClampNeg x2) (f1 (Int32.toNatClampNeg x2))) fun m19 => f_X5_copyRow_L2 n1 n2 f1 n m19 (x2 + 1) else none) else none)))
set_option maxHeartbeats 4000000 in
set_option maxRecDepth 100000 in
theorem v_X5_copyRow_L2 {x : Ctx} (X : Cx x RX5 cX5_copyRow 3 0 0) (b1 : Nat) (b2 : Nat) (n1 : Nat) (n2 : Nat) (f1 : Row) : ∀ (n : Nat) (f2 : Row) (x2 : Int32) {res : Row}, f_X5_copyRow_L2 n1 n2 f1 n f2 x2 = some res → Fn x (Option.none : Option FieldType) none ([wRow x.g b1 n1 f1] ++ [wRow x.g b2 n2 res]) → V x ([wRow x.g b1 n1 f1] ++ [wRow x.g b2 n2 f2]) [(0, .ref b1), (1, .ref b2), (2, .int x2)] [] 2 := by
  intro n
  induction n with
  | zero =>
    intro f2 x2 res h F
    rw [f_X5_copyRow_L2] at h
    cases h
  | succ n ih =>
    intro f2 x2 res h F
    rw [f_X5_copyRow_L2] at h
    refine v_iload_n X (pc := 2) dX5_copyRow_2 rfl 2 rfl ?_
    refine v_aload_n X (pc := 3) dX5_copyRow_3 rfl 0 rfl ?_
    refine v_alen X (pc := 4) 0 rfl dX5_copyRow_4 ?_
    refine v_icmpge X (pc := 5) (tgt := 26) dX5_copyRow_5 (by decide) (fun c => ?_) (fun c => ?_)
    · replace h := hp c h
      replace h := oi h
      subst h
      exact v_vret X (pc := 26) F dX5_copyRow_26
    · replace h := hn c h
      refine v_iload_n X (pc := 8) dX5_copyRow_8 rfl 2 rfl ?_
      refine v_aload_n X (pc := 9) dX5_copyRow_9 rfl 1 rfl ?_
      refine v_alen X (pc := 10) 1 rfl dX5_copyRow_10 ?_
      refine v_icmpge X (pc := 11) (tgt := 26) dX5_copyRow_11 (by decide) (fun c => ?_) (fun c => ?_)
      · replace h := hp c h
        replace h := oi h
        subst h
        exact v_vret X (pc := 26) F dX5_copyRow_26
      · replace h := hn c h
        refine v_aload_n X (pc := 14) dX5_copyRow_14 rfl 1 rfl ?_
        refine v_iload_n X (pc := 15) dX5_copyRow_15 rfl 2 rfl ?_
        refine v_aload_n X (pc := 16) dX5_copyRow_16 rfl 0 rfl ?_
        refine v_iload_n X (pc := 17) dX5_copyRow_17 rfl 2 rfl ?_
        obtain ⟨g18, h⟩ := og h
        refine v_iald X (pc := 18) (v := (f1 (Int32.toNatClampNeg x2))) 0 rfl (ib_in g18) rfl dX5_copyRow_18 ?_
        obtain ⟨g19, h⟩ := og h
        obtain ⟨m19, em19, h⟩ := lts h
        refine v_iast X (pc := 19) (w' := ([wRow x.g b1 n1 f1] ++ [wRow x.g b2 n2 m19])) 1 rfl (ib_in g19) (by rw [← em19]; rfl) dX5_copyRow_19 ?_
        refine v_iinc X (pc := 20) (v := (x2 + 1)) (L2 := [(2, .int (x2 + 1)), (0, .ref b1), (1, .ref b2)]) dX5_copyRow_20 2 rfl (by first | rfl | decide) (by decide) rfl ?_
        refine v_goto X (pc := 23) (tgt := 2) dX5_copyRow_23 (by decide) ?_
        refine v_sub (L2 := [(0, .ref b1), (1, .ref b2), (2, .int (x2 + 1))]) [1, 2, 0] rfl ?_
        exact ih m19 (x2 + 1) h F
def f_X5_copyRow (n1 : Nat) (n2 : Nat) (f1 : Row) (f2 : Row) : Option (Row) :=
  f_X5_copyRow_L2 n1 n2 f1 FU f2 0
set_option maxHeartbeats 4000000 in
set_option maxRecDepth 100000 in
theorem c_X5_copyRow (l : Launch) (g : Gl) (b1 : Nat) (b2 : Nat) (n1 : Nat) (n2 : Nat) (f1 : Row) (f2 : Row) {res : Row} (h : f_X5_copyRow n1 n2 f1 f2 = some res) : Ok l g yX5_copyRow cX5_copyRow 3 (Option.none : Option FieldType) 0 0 [.ref b1, .ref b2] ([wRow g b1 n1 f1] ++ [wRow g b2 n2 f2]) none ([wRow g b1 n1 f1] ++ [wRow g b2 n2 res]) := by
  refine Ok.of RX5 (by decide) rfl (Nat.le_of_ble_eq_true rfl) (fun x hl hg X F => ?_)
  subst hg; subst hl
  rw [f_X5_copyRow] at h
  show V x ([wRow x.g b1 n1 f1] ++ [wRow x.g b2 n2 f2]) [(0, .ref b1), (1, .ref b2)] [] 0
  refine v_iconst X (pc := 0) (v := 0) dX5_copyRow_0 (by decide) ?_
  refine v_istore_n X (pc := 1) (L2 := [(2, .int 0), (0, .ref b1), (1, .ref b2)]) dX5_copyRow_1 rfl (by decide) rfl ?_
  refine v_sub (L2 := [(0, .ref b1), (1, .ref b2), (2, .int 0)]) [1, 2, 0] rfl ?_
  exact v_X5_copyRow_L2 X b1 b2 n1 n2 f1 FU f2 0 h F
theorem cw_X5_copyRow : CwB yX5_copyRow cX5_copyRow 3 (Option.none : Option FieldType) 2 := ⟨q_202, q_14, by decide, by decide, by decide +kernel⟩
