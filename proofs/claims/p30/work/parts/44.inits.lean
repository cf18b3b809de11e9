def st0 : Blk := fun p => match p with
  | 0 => upd (upd (fun _ => 0) 1 30) 2 6
  | 1 => upd (upd (upd (upd (upd (upd (fun _ => 0) 0 100) 1 100) 2 100) 3 100) 4 100) 5 100
  | _ => fun _ => 0
def wHiR (g : Gl) (a : Nat → Nat) (c : Nat → Nat → Nat) (h : Row) (η : Nat → Blk) : va_W := (a 0, .inr (2, [.ref (a 1), .int (h 0), .int (h 1)])) :: (a 1, .inl (g.2.2.2, 5, .inr (.inr (.inr (.inr (va_up (va_up (va_up (va_up (va_up (fun _ => none) 0 (some (c 0 0))) 1 (some (c 1 0))) 2 (some (c 2 0))) 3 (some (c 3 0))) 4 (some (c 4 0)))))))) :: (wSt g (c 0) (η 0) ++ (wSt g (c 1) (η 1) ++ (wSt g (c 2) (η 2) ++ (wSt g (c 3) (η 3) ++ wSt g (c 4) (η 4)))))
set_option maxHeartbeats 4000000 in
set_option maxRecDepth 100000 in
theorem c_X1_init (l : Launch) (g : Gl) (h0 : Nat) : OkC l g yX1_init cX1_init 1 1 20 4 192 [.ref h0] [(h0, .inr (1, [.null, .null, .null, .null]))] (fun w1 => ∃ z7 z8 z9 z10 : Nat, w1 = [(h0, .inr (1, [.ref z7, .ref z8, .ref z9, .ref z10])), (z7, .inl (g.2.1, 48, .inl (fun _ => 0))), (z8, .inl (g.2.1, 48, .inl (fun _ => 0))), (z9, .inl (g.2.1, 48, .inl (fun _ => 0))), (z10, .inl (g.2.1, 48, .inl (fun _ => 0)))]) := by
  refine OkC.of RX1 (by decide) rfl rfl (Nat.le_of_ble_eq_true rfl) (fun x hl hg X F => ?_)
  subst hg; subst hl
  have X0 : Cx (x.al 0 0) _ _ _ _ _ := X.al (Nat.zero_le _) (Nat.zero_le _)
  show V (x.al 0 0) [(h0, .inr (1, [.null, .null, .null, .null]))] [(0, .ref h0)] [] 0
  refine v_aload_n X0 (pc := 0) dX1_init_0 rfl 0 rfl ?_
  refine v_objInit X0 (pc := 1) q_40 q_27 q_28 (by decide) (Nat.le_of_ble_eq_true rfl) dX1_init_1 ?_
  refine v_aload_n X0 (pc := 4) dX1_init_4 rfl 0 rfl ?_
  refine v_bipush X0 (pc := 5) (v := 48) dX1_init_5 (by decide) ?_
  refine v_newaI X0 (pc := 7) (N := 48) (k := 1) (n := 48) q_57 (by decide) (by decide) (Nat.le_of_ble_eq_true rfl) rfl rfl (Nat.le_trans (Nat.le_of_ble_eq_true rfl) F.2.2.2.2.2.1) (Nat.le_trans (Nat.le_of_ble_eq_true rfl) F.2.2.2.2.2.2) dX1_init_7 (fun y0 => ?_)
  have X1 := (X.al (Nat.le_trans (Nat.le_of_ble_eq_true rfl) F.2.2.2.2.2.1) (Nat.le_trans (Nat.le_of_ble_eq_true rfl) F.2.2.2.2.2.2) : Cx (x.al 1 48) _ _ _ _ _)
  show V (x.al 1 48) _ _ _ _
  refine v_putF X1 F.2.2.2.1 (pc := 9) (w' := [(h0, .inr (1, [.ref y0, .null, .null, .null])), (y0, .inl (x.g.2.1, 48, .inl (fun _ => 0)))]) uw1 0 rfl rfl 0 (by decide) q_41 rfl tyX1 tyX1_ok nmX1 rfl rfl rfl rfl (Nat.le_of_ble_eq_true rfl) rfl dX1_init_9 ?_
  refine v_aload_n X1 (pc := 12) dX1_init_12 rfl 0 rfl ?_
  refine v_bipush X1 (pc := 13) (v := 48) dX1_init_13 (by decide) ?_
  refine v_newaI X1 (pc := 15) (N := 48) (k := 2) (n := 96) q_57 (by decide) (by decide) (Nat.le_of_ble_eq_true rfl) rfl rfl (Nat.le_trans (Nat.le_of_ble_eq_true rfl) F.2.2.2.2.2.1) (Nat.le_trans (Nat.le_of_ble_eq_true rfl) F.2.2.2.2.2.2) dX1_init_15 (fun y1 => ?_)
  have X2 := (X.al (Nat.le_trans (Nat.le_of_ble_eq_true rfl) F.2.2.2.2.2.1) (Nat.le_trans (Nat.le_of_ble_eq_true rfl) F.2.2.2.2.2.2) : Cx (x.al 2 96) _ _ _ _ _)
  show V (x.al 2 96) _ _ _ _
  refine v_putF X2 F.2.2.2.1 (pc := 17) (w' := [(h0, .inr (1, [.ref y0, .ref y1, .null, .null])), (y0, .inl (x.g.2.1, 48, .inl (fun _ => 0))), (y1, .inl (x.g.2.1, 48, .inl (fun _ => 0)))]) uw1 0 rfl rfl 1 (by decide) q_43 rfl tyX1 tyX1_ok nmX1 rfl rfl rfl rfl (Nat.le_of_ble_eq_true rfl) rfl dX1_init_17 ?_
  refine v_aload_n X2 (pc := 20) dX1_init_20 rfl 0 rfl ?_
  refine v_bipush X2 (pc := 21) (v := 48) dX1_init_21 (by decide) ?_
  refine v_newaI X2 (pc := 23) (N := 48) (k := 3) (n := 144) q_57 (by decide) (by decide) (Nat.le_of_ble_eq_true rfl) rfl rfl (Nat.le_trans (Nat.le_of_ble_eq_true rfl) F.2.2.2.2.2.1) (Nat.le_trans (Nat.le_of_ble_eq_true rfl) F.2.2.2.2.2.2) dX1_init_23 (fun y2 => ?_)
  have X3 := (X.al (Nat.le_trans (Nat.le_of_ble_eq_true rfl) F.2.2.2.2.2.1) (Nat.le_trans (Nat.le_of_ble_eq_true rfl) F.2.2.2.2.2.2) : Cx (x.al 3 144) _ _ _ _ _)
  show V (x.al 3 144) _ _ _ _
  refine v_putF X3 F.2.2.2.1 (pc := 25) (w' := [(h0, .inr (1, [.ref y0, .ref y1, .ref y2, .null])), (y0, .inl (x.g.2.1, 48, .inl (fun _ => 0))), (y1, .inl (x.g.2.1, 48, .inl (fun _ => 0))), (y2, .inl (x.g.2.1, 48, .inl (fun _ => 0)))]) uw1 0 rfl rfl 2 (by decide) q_45 rfl tyX1 tyX1_ok nmX1 rfl rfl rfl rfl (Nat.le_of_ble_eq_true rfl) rfl dX1_init_25 ?_
  refine v_aload_n X3 (pc := 28) dX1_init_28 rfl 0 rfl ?_
  refine v_bipush X3 (pc := 29) (v := 48) dX1_init_29 (by decide) ?_
  refine v_newaI X3 (pc := 31) (N := 48) (k := 4) (n := 192) q_57 (by decide) (by decide) (Nat.le_of_ble_eq_true rfl) rfl rfl (Nat.le_trans (Nat.le_of_ble_eq_true rfl) F.2.2.2.2.2.1) (Nat.le_trans (Nat.le_of_ble_eq_true rfl) F.2.2.2.2.2.2) dX1_init_31 (fun y3 => ?_)
  have X4 := (X.al (Nat.le_trans (Nat.le_of_ble_eq_true rfl) F.2.2.2.2.2.1) (Nat.le_trans (Nat.le_of_ble_eq_true rfl) F.2.2.2.2.2.2) : Cx (x.al 4 192) _ _ _ _ _)
  show V (x.al 4 192) _ _ _ _
  refine v_putF X4 F.2.2.2.1 (pc := 33) (w' := [(h0, .inr (1, [.ref y0, .ref y1, .ref y2, .ref y3])), (y0, .inl (x.g.2.1, 48, .inl (fun _ => 0))), (y1, .inl (x.g.2.1, 48, .inl (fun _ => 0))), (y2, .inl (x.g.2.1, 48, .inl (fun _ => 0))), (y3, .inl (x.g.2.1, 48, .inl (fun _ => 0)))]) uw1 0 rfl rfl 3 (by decide) q_46 rfl tyX1 tyX1_ok nmX1 rfl rfl rfl rfl (Nat.le_of_ble_eq_true rfl) rfl dX1_init_33 ?_
  exact v_cret X4 (pc := 36) (F.al (k := 4) (n := 192)) rfl rfl ⟨_, _, _, _, rfl⟩ dX1_init_36
theorem cw_X1_init : CwB yX1_init cX1_init 1 none 0 := ⟨q_39, q_16, by decide, by decide, by decide +kernel⟩

set_option maxHeartbeats 4000000 in
set_option maxRecDepth 100000 in
theorem c_X0_init (l : Launch) (g : Gl) (h0 : Nat) : OkC l g yX0_init cX0_init 1 1 20 1 6 [.ref h0] [(h0, .inr (0, [.null]))] (fun w1 => ∃ a : Nat → Nat, a 0 = h0 ∧ w1 = wCl g a (fun _ => 0)) := by
  refine OkC.of RX0 (by decide) rfl rfl (Nat.le_of_ble_eq_true rfl) (fun x hl hg X F => ?_)
  subst hg; subst hl
  have X0 : Cx (x.al 0 0) _ _ _ _ _ := X.al (Nat.zero_le _) (Nat.zero_le _)
  show V (x.al 0 0) [(h0, .inr (0, [.null]))] [(0, .ref h0)] [] 0
  refine v_aload_n X0 (pc := 0) dX0_init_0 rfl 0 rfl ?_
  refine v_objInit X0 (pc := 1) q_130 q_27 q_28 (by decide) (Nat.le_of_ble_eq_true rfl) dX0_init_1 ?_
  refine v_aload_n X0 (pc := 4) dX0_init_4 rfl 0 rfl ?_
  refine v_bipush X0 (pc := 5) (v := 6) dX0_init_5 (by decide) ?_
  refine v_newaI X0 (pc := 7) (N := 6) (k := 1) (n := 6) q_57 (by decide) (by decide) (Nat.le_of_ble_eq_true rfl) rfl rfl (Nat.le_trans (Nat.le_of_ble_eq_true rfl) F.2.2.2.2.2.1) (Nat.le_trans (Nat.le_of_ble_eq_true rfl) F.2.2.2.2.2.2) dX0_init_7 (fun y0 => ?_)
  have X1 := (X.al (Nat.le_trans (Nat.le_of_ble_eq_true rfl) F.2.2.2.2.2.1) (Nat.le_trans (Nat.le_of_ble_eq_true rfl) F.2.2.2.2.2.2) : Cx (x.al 1 6) _ _ _ _ _)
  show V (x.al 1 6) _ _ _ _
  refine v_putF X1 F.2.2.2.1 (pc := 9) (w' := [(h0, .inr (0, [.ref y0])), (y0, .inl (x.g.2.1, 6, .inl (fun _ => 0)))]) uw0 0 rfl rfl 0 (by decide) q_131 rfl tyX0 tyX0_ok nmX0 rfl rfl rfl rfl (Nat.le_of_ble_eq_true rfl) rfl dX0_init_9 ?_
  exact v_cret X1 (pc := 12) (F.al (k := 1) (n := 6)) rfl rfl ⟨adL [h0, y0], rfl, rfl⟩ dX0_init_12
theorem cw_X0_init : CwB yX0_init cX0_init 1 none 0 := ⟨q_129, q_18, by decide, by decide, by decide +kernel⟩

set_option maxHeartbeats 4000000 in
set_option maxRecDepth 100000 in
theorem c_X3_init (l : Launch) (g : Gl) (h0 : Nat) : OkC l g yX3_init cX3_init 1 1 20 1 60 [.ref h0] [(h0, .inr (3, [.null, .int 0, .int 0, .int 0, .int 0, .int 0]))] (fun w1 => ∃ a : Nat → Nat, a 0 = h0 ∧ w1 = wSc g a (fun _ _ => 0)) := by
  refine OkC.of RX3 (by decide) rfl rfl (Nat.le_of_ble_eq_true rfl) (fun x hl hg X F => ?_)
  subst hg; subst hl
  have X0 : Cx (x.al 0 0) _ _ _ _ _ := X.al (Nat.zero_le _) (Nat.zero_le _)
  show V (x.al 0 0) [(h0, .inr (3, [.null, .int 0, .int 0, .int 0, .int 0, .int 0]))] [(0, .ref h0)] [] 0
  refine v_aload_n X0 (pc := 0) dX3_init_0 rfl 0 rfl ?_
  refine v_objInit X0 (pc := 1) q_140 q_27 q_28 (by decide) (Nat.le_of_ble_eq_true rfl) dX3_init_1 ?_
  refine v_aload_n X0 (pc := 4) dX3_init_4 rfl 0 rfl ?_
  refine v_bipush X0 (pc := 5) (v := 60) dX3_init_5 (by decide) ?_
  refine v_newaI X0 (pc := 7) (N := 60) (k := 1) (n := 60) q_57 (by decide) (by decide) (Nat.le_of_ble_eq_true rfl) rfl rfl (Nat.le_trans (Nat.le_of_ble_eq_true rfl) F.2.2.2.2.2.1) (Nat.le_trans (Nat.le_of_ble_eq_true rfl) F.2.2.2.2.2.2) dX3_init_7 (fun y0 => ?_)
  have X1 := (X.al (Nat.le_trans (Nat.le_of_ble_eq_true rfl) F.2.2.2.2.2.1) (Nat.le_trans (Nat.le_of_ble_eq_true rfl) F.2.2.2.2.2.2) : Cx (x.al 1 60) _ _ _ _ _)
  show V (x.al 1 60) _ _ _ _
  refine v_putF X1 F.2.2.2.1 (pc := 9) (w' := [(h0, .inr (3, [.ref y0, .int 0, .int 0, .int 0, .int 0, .int 0])), (y0, .inl (x.g.2.1, 60, .inl (fun _ => 0)))]) uw3 0 rfl rfl 0 (by decide) q_141 rfl tyX3 tyX3_ok nmX3 rfl rfl rfl rfl (Nat.le_of_ble_eq_true rfl) rfl dX3_init_9 ?_
  refine v_aload_n X1 (pc := 12) dX3_init_12 rfl 0 rfl ?_
  refine v_iconst X1 (pc := 13) (v := 0) dX3_init_13 (by decide) ?_
  refine v_put X1 (pc := 14) (w' := [(h0, .inr (3, [.ref y0, .int 0, .int 0, .int 0, .int 0, .int 0])), (y0, .inl (x.g.2.1, 60, .inl (fun _ => 0)))]) uw3 0 rfl rfl 1 (by decide) q_142 rfl tyX3 tyX3_ok nmX3 rfl rfl rfl (Nat.le_of_ble_eq_true rfl) rfl dX3_init_14 ?_
  refine v_aload_n X1 (pc := 17) dX3_init_17 rfl 0 rfl ?_
  refine v_iconst X1 (pc := 18) (v := 0) dX3_init_18 (by decide) ?_
  refine v_put X1 (pc := 19) (w' := [(h0, .inr (3, [.ref y0, .int 0, .int 0, .int 0, .int 0, .int 0])), (y0, .inl (x.g.2.1, 60, .inl (fun _ => 0)))]) uw3 0 rfl rfl 2 (by decide) q_144 rfl tyX3 tyX3_ok nmX3 rfl rfl rfl (Nat.le_of_ble_eq_true rfl) rfl dX3_init_19 ?_
  refine v_aload_n X1 (pc := 22) dX3_init_22 rfl 0 rfl ?_
  refine v_iconst X1 (pc := 23) (v := 0) dX3_init_23 (by decide) ?_
  refine v_put X1 (pc := 24) (w' := [(h0, .inr (3, [.ref y0, .int 0, .int 0, .int 0, .int 0, .int 0])), (y0, .inl (x.g.2.1, 60, .inl (fun _ => 0)))]) uw3 0 rfl rfl 3 (by decide) q_145 rfl tyX3 tyX3_ok nmX3 rfl rfl rfl (Nat.le_of_ble_eq_true rfl) rfl dX3_init_24 ?_
  refine v_aload_n X1 (pc := 27) dX3_init_27 rfl 0 rfl ?_
  refine v_iconst X1 (pc := 28) (v := 0) dX3_init_28 (by decide) ?_
  refine v_put X1 (pc := 29) (w' := [(h0, .inr (3, [.ref y0, .int 0, .int 0, .int 0, .int 0, .int 0])), (y0, .inl (x.g.2.1, 60, .inl (fun _ => 0)))]) uw3 0 rfl rfl 4 (by decide) q_146 rfl tyX3 tyX3_ok nmX3 rfl rfl rfl (Nat.le_of_ble_eq_true rfl) rfl dX3_init_29 ?_
  refine v_aload_n X1 (pc := 32) dX3_init_32 rfl 0 rfl ?_
  refine v_iconst X1 (pc := 33) (v := 0) dX3_init_33 (by decide) ?_
  refine v_put X1 (pc := 34) (w' := [(h0, .inr (3, [.ref y0, .int 0, .int 0, .int 0, .int 0, .int 0])), (y0, .inl (x.g.2.1, 60, .inl (fun _ => 0)))]) uw3 0 rfl rfl 5 (by decide) q_147 rfl tyX3 tyX3_ok nmX3 rfl rfl rfl (Nat.le_of_ble_eq_true rfl) rfl dX3_init_34 ?_
  exact v_cret X1 (pc := 37) (F.al (k := 1) (n := 60)) rfl rfl ⟨adL [h0, y0], rfl, rfl⟩ dX3_init_37
theorem cw_X3_init : CwB yX3_init cX3_init 1 none 0 := ⟨q_139, q_19, by decide, by decide, by decide +kernel⟩

set_option maxHeartbeats 4000000 in
set_option maxRecDepth 100000 in
theorem c_X4_init (l : Launch) (g : Gl) (h0 : Nat) : OkC l g yX4_init cX4_init 2 2 40 11 256 [.ref h0] [(h0, .inr (4, [.null, .null, .null, .null, .null, .null, .null, .int 0, .int 0, .int 0, .int 0]))] (fun w1 => ∃ a : Nat → Nat, a 0 = h0 ∧ w1 = wSt g a st0) := by
  refine OkC.of RX4 (by decide) rfl rfl (Nat.le_of_ble_eq_true rfl) (fun x hl hg X F => ?_)
  subst hg; subst hl
  have X0 : Cx (x.al 0 0) _ _ _ _ _ := X.al (Nat.zero_le _) (Nat.zero_le _)
  show V (x.al 0 0) [(h0, .inr (4, [.null, .null, .null, .null, .null, .null, .null, .int 0, .int 0, .int 0, .int 0]))] [(0, .ref h0)] [] 0
  refine v_aload_n X0 (pc := 0) dX4_init_0 rfl 0 rfl ?_
  refine v_objInit X0 (pc := 1) q_34 q_27 q_28 (by decide) (Nat.le_of_ble_eq_true rfl) dX4_init_1 ?_
  refine v_aload_n X0 (pc := 4) dX4_init_4 rfl 0 rfl ?_
  refine v_bipush X0 (pc := 5) (v := 6) dX4_init_5 (by decide) ?_
  refine v_newaI X0 (pc := 7) (N := 6) (k := 1) (n := 6) q_57 (by decide) (by decide) (Nat.le_of_ble_eq_true rfl) rfl rfl (Nat.le_trans (Nat.le_of_ble_eq_true rfl) F.2.2.2.2.2.1) (Nat.le_trans (Nat.le_of_ble_eq_true rfl) F.2.2.2.2.2.2) dX4_init_7 (fun y0 => ?_)
  have X1 := (X.al (Nat.le_trans (Nat.le_of_ble_eq_true rfl) F.2.2.2.2.2.1) (Nat.le_trans (Nat.le_of_ble_eq_true rfl) F.2.2.2.2.2.2) : Cx (x.al 1 6) _ _ _ _ _)
  show V (x.al 1 6) _ _ _ _
  refine v_putF X1 F.2.2.2.1 (pc := 9) (w' := [(h0, .inr (4, [.ref y0, .null, .null, .null, .null, .null, .null, .int 0, .int 0, .int 0, .int 0])), (y0, .inl (x.g.2.1, 6, .inl (fun _ => 0)))]) uw4 0 rfl rfl 0 (by decide) q_58 rfl tyX4 tyX4_ok nmX4 rfl rfl rfl rfl (Nat.le_of_ble_eq_true rfl) rfl dX4_init_9 ?_
  refine v_aload_n X1 (pc := 12) dX4_init_12 rfl 0 rfl ?_
  refine v_bipush X1 (pc := 13) (v := 6) dX4_init_13 (by decide) ?_
  refine v_newaI X1 (pc := 15) (N := 6) (k := 2) (n := 12) q_57 (by decide) (by decide) (Nat.le_of_ble_eq_true rfl) rfl rfl (Nat.le_trans (Nat.le_of_ble_eq_true rfl) F.2.2.2.2.2.1) (Nat.le_trans (Nat.le_of_ble_eq_true rfl) F.2.2.2.2.2.2) dX4_init_15 (fun y1 => ?_)
  have X2 := (X.al (Nat.le_trans (Nat.le_of_ble_eq_true rfl) F.2.2.2.2.2.1) (Nat.le_trans (Nat.le_of_ble_eq_true rfl) F.2.2.2.2.2.2) : Cx (x.al 2 12) _ _ _ _ _)
  show V (x.al 2 12) _ _ _ _
  refine v_putF X2 F.2.2.2.1 (pc := 17) (w' := [(h0, .inr (4, [.ref y0, .ref y1, .null, .null, .null, .null, .null, .int 0, .int 0, .int 0, .int 0])), (y0, .inl (x.g.2.1, 6, .inl (fun _ => 0))), (y1, .inl (x.g.2.1, 6, .inl (fun _ => 0)))]) uw4 0 rfl rfl 1 (by decide) q_60 rfl tyX4 tyX4_ok nmX4 rfl rfl rfl rfl (Nat.le_of_ble_eq_true rfl) rfl dX4_init_17 ?_
  refine v_aload_n X2 (pc := 20) dX4_init_20 rfl 0 rfl ?_
  refine v_bipush X2 (pc := 21) (v := 12) dX4_init_21 (by decide) ?_
  refine v_newaI X2 (pc := 23) (N := 12) (k := 3) (n := 24) q_57 (by decide) (by decide) (Nat.le_of_ble_eq_true rfl) rfl rfl (Nat.le_trans (Nat.le_of_ble_eq_true rfl) F.2.2.2.2.2.1) (Nat.le_trans (Nat.le_of_ble_eq_true rfl) F.2.2.2.2.2.2) dX4_init_23 (fun y2 => ?_)
  have X3 := (X.al (Nat.le_trans (Nat.le_of_ble_eq_true rfl) F.2.2.2.2.2.1) (Nat.le_trans (Nat.le_of_ble_eq_true rfl) F.2.2.2.2.2.2) : Cx (x.al 3 24) _ _ _ _ _)
  show V (x.al 3 24) _ _ _ _
  refine v_putF X3 F.2.2.2.1 (pc := 25) (w' := [(h0, .inr (4, [.ref y0, .ref y1, .ref y2, .null, .null, .null, .null, .int 0, .int 0, .int 0, .int 0])), (y0, .inl (x.g.2.1, 6, .inl (fun _ => 0))), (y1, .inl (x.g.2.1, 6, .inl (fun _ => 0))), (y2, .inl (x.g.2.1, 12, .inl (fun _ => 0)))]) uw4 0 rfl rfl 2 (by decide) q_62 rfl tyX4 tyX4_ok nmX4 rfl rfl rfl rfl (Nat.le_of_ble_eq_true rfl) rfl dX4_init_25 ?_
  refine v_aload_n X3 (pc := 28) dX4_init_28 rfl 0 rfl ?_
  refine v_bipush X3 (pc := 29) (v := 12) dX4_init_29 (by decide) ?_
  refine v_newaI X3 (pc := 31) (N := 12) (k := 4) (n := 36) q_57 (by decide) (by decide) (Nat.le_of_ble_eq_true rfl) rfl rfl (Nat.le_trans (Nat.le_of_ble_eq_true rfl) F.2.2.2.2.2.1) (Nat.le_trans (Nat.le_of_ble_eq_true rfl) F.2.2.2.2.2.2) dX4_init_31 (fun y3 => ?_)
  have X4 := (X.al (Nat.le_trans (Nat.le_of_ble_eq_true rfl) F.2.2.2.2.2.1) (Nat.le_trans (Nat.le_of_ble_eq_true rfl) F.2.2.2.2.2.2) : Cx (x.al 4 36) _ _ _ _ _)
  show V (x.al 4 36) _ _ _ _
  refine v_putF X4 F.2.2.2.1 (pc := 33) (w' := [(h0, .inr (4, [.ref y0, .ref y1, .ref y2, .ref y3, .null, .null, .null, .int 0, .int 0, .int 0, .int 0])), (y0, .inl (x.g.2.1, 6, .inl (fun _ => 0))), (y1, .inl (x.g.2.1, 6, .inl (fun _ => 0))), (y2, .inl (x.g.2.1, 12, .inl (fun _ => 0))), (y3, .inl (x.g.2.1, 12, .inl (fun _ => 0)))]) uw4 0 rfl rfl 3 (by decide) q_64 rfl tyX4 tyX4_ok nmX4 rfl rfl rfl rfl (Nat.le_of_ble_eq_true rfl) rfl dX4_init_33 ?_
  refine v_aload_n X4 (pc := 36) dX4_init_36 rfl 0 rfl ?_
  refine v_bipush X4 (pc := 37) (v := 12) dX4_init_37 (by decide) ?_
  refine v_newaI X4 (pc := 39) (N := 12) (k := 5) (n := 48) q_57 (by decide) (by decide) (Nat.le_of_ble_eq_true rfl) rfl rfl (Nat.le_trans (Nat.le_of_ble_eq_true rfl) F.2.2.2.2.2.1) (Nat.le_trans (Nat.le_of_ble_eq_true rfl) F.2.2.2.2.2.2) dX4_init_39 (fun y4 => ?_)
  have X5 := (X.al (Nat.le_trans (Nat.le_of_ble_eq_true rfl) F.2.2.2.2.2.1) (Nat.le_trans (Nat.le_of_ble_eq_true rfl) F.2.2.2.2.2.2) : Cx (x.al 5 48) _ _ _ _ _)
  show V (x.al 5 48) _ _ _ _
  refine v_putF X5 F.2.2.2.1 (pc := 41) (w' := [(h0, .inr (4, [.ref y0, .ref y1, .ref y2, .ref y3, .ref y4, .null, .null, .int 0, .int 0, .int 0, .int 0])), (y0, .inl (x.g.2.1, 6, .inl (fun _ => 0))), (y1, .inl (x.g.2.1, 6, .inl (fun _ => 0))), (y2, .inl (x.g.2.1, 12, .inl (fun _ => 0))), (y3, .inl (x.g.2.1, 12, .inl (fun _ => 0))), (y4, .inl (x.g.2.1, 12, .inl (fun _ => 0)))]) uw4 0 rfl rfl 4 (by decide) q_66 rfl tyX4 tyX4_ok nmX4 rfl rfl rfl rfl (Nat.le_of_ble_eq_true rfl) rfl dX4_init_41 ?_
  refine v_aload_n X5 (pc := 44) dX4_init_44 rfl 0 rfl ?_
  refine v_bipush X5 (pc := 45) (v := 12) dX4_init_45 (by decide) ?_
  refine v_newaI X5 (pc := 47) (N := 12) (k := 6) (n := 60) q_57 (by decide) (by decide) (Nat.le_of_ble_eq_true rfl) rfl rfl (Nat.le_trans (Nat.le_of_ble_eq_true rfl) F.2.2.2.2.2.1) (Nat.le_trans (Nat.le_of_ble_eq_true rfl) F.2.2.2.2.2.2) dX4_init_47 (fun y5 => ?_)
  have X6 := (X.al (Nat.le_trans (Nat.le_of_ble_eq_true rfl) F.2.2.2.2.2.1) (Nat.le_trans (Nat.le_of_ble_eq_true rfl) F.2.2.2.2.2.2) : Cx (x.al 6 60) _ _ _ _ _)
  show V (x.al 6 60) _ _ _ _
  refine v_putF X6 F.2.2.2.1 (pc := 49) (w' := [(h0, .inr (4, [.ref y0, .ref y1, .ref y2, .ref y3, .ref y4, .ref y5, .null, .int 0, .int 0, .int 0, .int 0])), (y0, .inl (x.g.2.1, 6, .inl (fun _ => 0))), (y1, .inl (x.g.2.1, 6, .inl (fun _ => 0))), (y2, .inl (x.g.2.1, 12, .inl (fun _ => 0))), (y3, .inl (x.g.2.1, 12, .inl (fun _ => 0))), (y4, .inl (x.g.2.1, 12, .inl (fun _ => 0))), (y5, .inl (x.g.2.1, 12, .inl (fun _ => 0)))]) uw4 0 rfl rfl 5 (by decide) q_68 rfl tyX4 tyX4_ok nmX4 rfl rfl rfl rfl (Nat.le_of_ble_eq_true rfl) rfl dX4_init_49 ?_
  refine v_aload_n X6 (pc := 52) dX4_init_52 rfl 0 rfl ?_
  refine v_new X6 (pc := 53) (ci := 1) (N := 4) (fs := [.null, .null, .null, .null]) (k := 7) (n := 64) uw1 tyX1 tyX1_ok q_35 q_36 q_16 rfl (fun j hj => by match j, hj with | 0, _ => rfl | 1, _ => rfl | 2, _ => rfl | 3, _ => rfl | j + 4, hj => exact absurd hj (by omega)) rfl rfl (Nat.le_trans (Nat.le_of_ble_eq_true rfl) F.2.2.2.2.2.1) (Nat.le_trans (Nat.le_of_ble_eq_true rfl) F.2.2.2.2.2.2) dX4_init_53 (fun y6 => ?_)
  have X7 := (X.al (Nat.le_trans (Nat.le_of_ble_eq_true rfl) F.2.2.2.2.2.1) (Nat.le_trans (Nat.le_of_ble_eq_true rfl) F.2.2.2.2.2.2) : Cx (x.al 7 64) _ _ _ _ _)
  show V (x.al 7 64) _ _ _ _
  refine v_dup X7 (pc := 56) dX4_init_56 rfl ?_
  refine v_callIN X7 F.2.2.2.2.1 (pc := 57) (k := 11) (n := 256) (c_X1_init x.l x.g y6) cw_X1_init k_0 q_38 rfl ⟨by decide, by decide⟩ rfl rfl (Nat.le_trans (Nat.le_of_ble_eq_true rfl) F.2.2.2.2.2.1) (Nat.le_trans (Nat.le_of_ble_eq_true rfl) F.2.2.2.2.2.2) (Nat.le_of_ble_eq_true rfl) dX4_init_57 (fun w7 hw7 => ?_)
  obtain ⟨z7, z8, z9, z10, rfl⟩ := hw7
  have X11 := (X.al (Nat.le_trans (Nat.le_of_ble_eq_true rfl) F.2.2.2.2.2.1) (Nat.le_trans (Nat.le_of_ble_eq_true rfl) F.2.2.2.2.2.2) : Cx (x.al 11 256) _ _ _ _ _)
  show V (x.al 11 256) _ _ _ _
  refine v_putF X11 F.2.2.2.1 (pc := 60) (w' := [(h0, .inr (4, [.ref y0, .ref y1, .ref y2, .ref y3, .ref y4, .ref y5, .ref y6, .int 0, .int 0, .int 0, .int 0])), (y0, .inl (x.g.2.1, 6, .inl (fun _ => 0))), (y1, .inl (x.g.2.1, 6, .inl (fun _ => 0))), (y2, .inl (x.g.2.1, 12, .inl (fun _ => 0))), (y3, .inl (x.g.2.1, 12, .inl (fun _ => 0))), (y4, .inl (x.g.2.1, 12, .inl (fun _ => 0))), (y5, .inl (x.g.2.1, 12, .inl (fun _ => 0))), (y6, .inr (1, [.ref z7, .ref z8, .ref z9, .ref z10])), (z7, .inl (x.g.2.1, 48, .inl (fun _ => 0))), (z8, .inl (x.g.2.1, 48, .inl (fun _ => 0))), (z9, .inl (x.g.2.1, 48, .inl (fun _ => 0))), (z10, .inl (x.g.2.1, 48, .inl (fun _ => 0)))]) uw4 0 rfl rfl 6 (by decide) q_70 rfl tyX4 tyX4_ok nmX4 rfl rfl rfl rfl (Nat.le_of_ble_eq_true rfl) rfl dX4_init_60 ?_
  refine v_aload_n X11 (pc := 63) dX4_init_63 rfl 0 rfl ?_
  refine v_iconst X11 (pc := 64) (v := 0) dX4_init_64 (by decide) ?_
  refine v_put X11 (pc := 65) (w' := [(h0, .inr (4, [.ref y0, .ref y1, .ref y2, .ref y3, .ref y4, .ref y5, .ref y6, .int 0, .int 0, .int 0, .int 0])), (y0, .inl (x.g.2.1, 6, .inl (fun _ => 0))), (y1, .inl (x.g.2.1, 6, .inl (fun _ => 0))), (y2, .inl (x.g.2.1, 12, .inl (fun _ => 0))), (y3, .inl (x.g.2.1, 12, .inl (fun _ => 0))), (y4, .inl (x.g.2.1, 12, .inl (fun _ => 0))), (y5, .inl (x.g.2.1, 12, .inl (fun _ => 0))), (y6, .inr (1, [.ref z7, .ref z8, .ref z9, .ref z10])), (z7, .inl (x.g.2.1, 48, .inl (fun _ => 0))), (z8, .inl (x.g.2.1, 48, .inl (fun _ => 0))), (z9, .inl (x.g.2.1, 48, .inl (fun _ => 0))), (z10, .inl (x.g.2.1, 48, .inl (fun _ => 0)))]) uw4 0 rfl rfl 7 (by decide) q_72 rfl tyX4 tyX4_ok nmX4 rfl rfl rfl (Nat.le_of_ble_eq_true rfl) rfl dX4_init_65 ?_
  refine v_aload_n X11 (pc := 68) dX4_init_68 rfl 0 rfl ?_
  refine v_bipush X11 (pc := 69) (v := 30) dX4_init_69 (by decide) ?_
  refine v_put X11 (pc := 71) (w' := [(h0, .inr (4, [.ref y0, .ref y1, .ref y2, .ref y3, .ref y4, .ref y5, .ref y6, .int 0, .int 30, .int 0, .int 0])), (y0, .inl (x.g.2.1, 6, .inl (fun _ => 0))), (y1, .inl (x.g.2.1, 6, .inl (fun _ => 0))), (y2, .inl (x.g.2.1, 12, .inl (fun _ => 0))), (y3, .inl (x.g.2.1, 12, .inl (fun _ => 0))), (y4, .inl (x.g.2.1, 12, .inl (fun _ => 0))), (y5, .inl (x.g.2.1, 12, .inl (fun _ => 0))), (y6, .inr (1, [.ref z7, .ref z8, .ref z9, .ref z10])), (z7, .inl (x.g.2.1, 48, .inl (fun _ => 0))), (z8, .inl (x.g.2.1, 48, .inl (fun _ => 0))), (z9, .inl (x.g.2.1, 48, .inl (fun _ => 0))), (z10, .inl (x.g.2.1, 48, .inl (fun _ => 0)))]) uw4 0 rfl rfl 8 (by decide) q_75 rfl tyX4 tyX4_ok nmX4 rfl rfl rfl (Nat.le_of_ble_eq_true rfl) rfl dX4_init_71 ?_
  refine v_aload_n X11 (pc := 74) dX4_init_74 rfl 0 rfl ?_
  refine v_bipush X11 (pc := 75) (v := 6) dX4_init_75 (by decide) ?_
  refine v_put X11 (pc := 77) (w' := [(h0, .inr (4, [.ref y0, .ref y1, .ref y2, .ref y3, .ref y4, .ref y5, .ref y6, .int 0, .int 30, .int 6, .int 0])), (y0, .inl (x.g.2.1, 6, .inl (fun _ => 0))), (y1, .inl (x.g.2.1, 6, .inl (fun _ => 0))), (y2, .inl (x.g.2.1, 12, .inl (fun _ => 0))), (y3, .inl (x.g.2.1, 12, .inl (fun _ => 0))), (y4, .inl (x.g.2.1, 12, .inl (fun _ => 0))), (y5, .inl (x.g.2.1, 12, .inl (fun _ => 0))), (y6, .inr (1, [.ref z7, .ref z8, .ref z9, .ref z10])), (z7, .inl (x.g.2.1, 48, .inl (fun _ => 0))), (z8, .inl (x.g.2.1, 48, .inl (fun _ => 0))), (z9, .inl (x.g.2.1, 48, .inl (fun _ => 0))), (z10, .inl (x.g.2.1, 48, .inl (fun _ => 0)))]) uw4 0 rfl rfl 9 (by decide) q_78 rfl tyX4 tyX4_ok nmX4 rfl rfl rfl (Nat.le_of_ble_eq_true rfl) rfl dX4_init_77 ?_
  refine v_aload_n X11 (pc := 80) dX4_init_80 rfl 0 rfl ?_
  refine v_iconst X11 (pc := 81) (v := 0) dX4_init_81 (by decide) ?_
  refine v_put X11 (pc := 82) (w' := [(h0, .inr (4, [.ref y0, .ref y1, .ref y2, .ref y3, .ref y4, .ref y5, .ref y6, .int 0, .int 30, .int 6, .int 0])), (y0, .inl (x.g.2.1, 6, .inl (fun _ => 0))), (y1, .inl (x.g.2.1, 6, .inl (fun _ => 0))), (y2, .inl (x.g.2.1, 12, .inl (fun _ => 0))), (y3, .inl (x.g.2.1, 12, .inl (fun _ => 0))), (y4, .inl (x.g.2.1, 12, .inl (fun _ => 0))), (y5, .inl (x.g.2.1, 12, .inl (fun _ => 0))), (y6, .inr (1, [.ref z7, .ref z8, .ref z9, .ref z10])), (z7, .inl (x.g.2.1, 48, .inl (fun _ => 0))), (z8, .inl (x.g.2.1, 48, .inl (fun _ => 0))), (z9, .inl (x.g.2.1, 48, .inl (fun _ => 0))), (z10, .inl (x.g.2.1, 48, .inl (fun _ => 0)))]) uw4 0 rfl rfl 10 (by decide) q_80 rfl tyX4 tyX4_ok nmX4 rfl rfl rfl (Nat.le_of_ble_eq_true rfl) rfl dX4_init_82 ?_
  refine v_iconst X11 (pc := 85) (v := 0) dX4_init_85 (by decide) ?_
  refine v_istore_n X11 (pc := 86) (L2 := [(1, .int 0), (0, .ref h0)]) dX4_init_86 rfl (by decide) rfl ?_
  refine v_iload_n X11 (pc := 87) dX4_init_87 rfl 0 rfl ?_
  refine v_aload_n X11 (pc := 88) dX4_init_88 rfl 1 rfl ?_
  refine v_get X11 (pc := 89) (v := .ref y0) uw4 0 rfl rfl 0 (by decide) q_58 rfl rfl dX4_init_89 ?_
  refine v_alen X11 (pc := 92) 1 rfl dX4_init_92 ?_
  refine v_icmpge X11 (pc := 93) (tgt := 110) dX4_init_93 (by decide) (fun c => absurd c (by decide)) (fun _ => ?_)
  refine v_aload_n X11 (pc := 96) dX4_init_96 rfl 1 rfl ?_
  refine v_get X11 (pc := 97) (v := .ref y0) uw4 0 rfl rfl 0 (by decide) q_58 rfl rfl dX4_init_97 ?_
  refine v_iload_n X11 (pc := 100) dX4_init_100 rfl 0 rfl ?_
  refine v_bipush X11 (pc := 101) (v := 100) dX4_init_101 (by decide) ?_
  refine v_iast X11 (pc := 103) (w' := [(h0, .inr (4, [.ref y0, .ref y1, .ref y2, .ref y3, .ref y4, .ref y5, .ref y6, .int 0, .int 30, .int 6, .int 0])), (y0, .inl (x.g.2.1, 6, .inl (upd (fun _ => 0) 0 100))), (y1, .inl (x.g.2.1, 6, .inl (fun _ => 0))), (y2, .inl (x.g.2.1, 12, .inl (fun _ => 0))), (y3, .inl (x.g.2.1, 12, .inl (fun _ => 0))), (y4, .inl (x.g.2.1, 12, .inl (fun _ => 0))), (y5, .inl (x.g.2.1, 12, .inl (fun _ => 0))), (y6, .inr (1, [.ref z7, .ref z8, .ref z9, .ref z10])), (z7, .inl (x.g.2.1, 48, .inl (fun _ => 0))), (z8, .inl (x.g.2.1, 48, .inl (fun _ => 0))), (z9, .inl (x.g.2.1, 48, .inl (fun _ => 0))), (z10, .inl (x.g.2.1, 48, .inl (fun _ => 0)))]) 1 rfl (ib_in (by decide)) rfl dX4_init_103 ?_
  refine v_iinc X11 (pc := 104) (v := 1) (L2 := [(1, .int 1), (0, .ref h0)]) dX4_init_104 0 rfl (by decide) (by decide) rfl ?_
  refine v_goto X11 (pc := 107) (tgt := 87) dX4_init_107 (by decide) ?_
  refine v_iload_n X11 (pc := 87) dX4_init_87 rfl 0 rfl ?_
  refine v_aload_n X11 (pc := 88) dX4_init_88 rfl 1 rfl ?_
  refine v_get X11 (pc := 89) (v := .ref y0) uw4 0 rfl rfl 0 (by decide) q_58 rfl rfl dX4_init_89 ?_
  refine v_alen X11 (pc := 92) 1 rfl dX4_init_92 ?_
  refine v_icmpge X11 (pc := 93) (tgt := 110) dX4_init_93 (by decide) (fun c => absurd c (by decide)) (fun _ => ?_)
  refine v_aload_n X11 (pc := 96) dX4_init_96 rfl 1 rfl ?_
  refine v_get X11 (pc := 97) (v := .ref y0) uw4 0 rfl rfl 0 (by decide) q_58 rfl rfl dX4_init_97 ?_
  refine v_iload_n X11 (pc := 100) dX4_init_100 rfl 0 rfl ?_
  refine v_bipush X11 (pc := 101) (v := 100) dX4_init_101 (by decide) ?_
  refine v_iast X11 (pc := 103) (w' := [(h0, .inr (4, [.ref y0, .ref y1, .ref y2, .ref y3, .ref y4, .ref y5, .ref y6, .int 0, .int 30, .int 6, .int 0])), (y0, .inl (x.g.2.1, 6, .inl (upd (upd (fun _ => 0) 0 100) 1 100))), (y1, .inl (x.g.2.1, 6, .inl (fun _ => 0))), (y2, .inl (x.g.2.1, 12, .inl (fun _ => 0))), (y3, .inl (x.g.2.1, 12, .inl (fun _ => 0))), (y4, .inl (x.g.2.1, 12, .inl (fun _ => 0))), (y5, .inl (x.g.2.1, 12, .inl (fun _ => 0))), (y6, .inr (1, [.ref z7, .ref z8, .ref z9, .ref z10])), (z7, .inl (x.g.2.1, 48, .inl (fun _ => 0))), (z8, .inl (x.g.2.1, 48, .inl (fun _ => 0))), (z9, .inl (x.g.2.1, 48, .inl (fun _ => 0))), (z10, .inl (x.g.2.1, 48, .inl (fun _ => 0)))]) 1 rfl (ib_in (by decide)) rfl dX4_init_103 ?_
  refine v_iinc X11 (pc := 104) (v := 2) (L2 := [(1, .int 2), (0, .ref h0)]) dX4_init_104 0 rfl (by decide) (by decide) rfl ?_
  refine v_goto X11 (pc := 107) (tgt := 87) dX4_init_107 (by decide) ?_
  refine v_iload_n X11 (pc := 87) dX4_init_87 rfl 0 rfl ?_
  refine v_aload_n X11 (pc := 88) dX4_init_88 rfl 1 rfl ?_
  refine v_get X11 (pc := 89) (v := .ref y0) uw4 0 rfl rfl 0 (by decide) q_58 rfl rfl dX4_init_89 ?_
  refine v_alen X11 (pc := 92) 1 rfl dX4_init_92 ?_
  refine v_icmpge X11 (pc := 93) (tgt := 110) dX4_init_93 (by decide) (fun c => absurd c (by decide)) (fun _ => ?_)
  refine v_aload_n X11 (pc := 96) dX4_init_96 rfl 1 rfl ?_
  refine v_get X11 (pc := 97) (v := .ref y0) uw4 0 rfl rfl 0 (by decide) q_58 rfl rfl dX4_init_97 ?_
  refine v_iload_n X11 (pc := 100) dX4_init_100 rfl 0 rfl ?_
  refine v_bipush X11 (pc := 101) (v := 100) dX4_init_101 (by decide) ?_
  refine v_iast X11 (pc := 103) (w' := [(h0, .inr (4, [.ref y0, .ref y1, .ref y2, .ref y3, .ref y4, .ref y5, .ref y6, .int 0, .int 30, .int 6, .int 0])), (y0, .inl (x.g.2.1, 6, .inl (upd (upd (upd (fun _ => 0) 0 100) 1 100) 2 100))), (y1, .inl (x.g.2.1, 6, .inl (fun _ => 0))), (y2, .inl (x.g.2.1, 12, .inl (fun _ => 0))), (y3, .inl (x.g.2.1, 12, .inl (fun _ => 0))), (y4, .inl (x.g.2.1, 12, .inl (fun _ => 0))), (y5, .inl (x.g.2.1, 12, .inl (fun _ => 0))), (y6, .inr (1, [.ref z7, .ref z8, .ref z9, .ref z10])), (z7, .inl (x.g.2.1, 48, .inl (fun _ => 0))), (z8, .inl (x.g.2.1, 48, .inl (fun _ => 0))), (z9, .inl (x.g.2.1, 48, .inl (fun _ => 0))), (z10, .inl (x.g.2.1, 48, .inl (fun _ => 0)))]) 1 rfl (ib_in (by decide)) rfl dX4_init_103 ?_
  refine v_iinc X11 (pc := 104) (v := 3) (L2 := [(1, .int 3), (0, .ref h0)]) dX4_init_104 0 rfl (by decide) (by decide) rfl ?_
  refine v_goto X11 (pc := 107) (tgt := 87) dX4_init_107 (by decide) ?_
  refine v_iload_n X11 (pc := 87) dX4_init_87 rfl 0 rfl ?_
  refine v_aload_n X11 (pc := 88) dX4_init_88 rfl 1 rfl ?_
  refine v_get X11 (pc := 89) (v := .ref y0) uw4 0 rfl rfl 0 (by decide) q_58 rfl rfl dX4_init_89 ?_
  refine v_alen X11 (pc := 92) 1 rfl dX4_init_92 ?_
  refine v_icmpge X11 (pc := 93) (tgt := 110) dX4_init_93 (by decide) (fun c => absurd c (by decide)) (fun _ => ?_)
  refine v_aload_n X11 (pc := 96) dX4_init_96 rfl 1 rfl ?_
  refine v_get X11 (pc := 97) (v := .ref y0) uw4 0 rfl rfl 0 (by decide) q_58 rfl rfl dX4_init_97 ?_
  refine v_iload_n X11 (pc := 100) dX4_init_100 rfl 0 rfl ?_
  refine v_bipush X11 (pc := 101) (v := 100) dX4_init_101 (by decide) ?_
  refine v_iast X11 (pc := 103) (w' := [(h0, .inr (4, [.ref y0, .ref y1, .ref y2, .ref y3, .ref y4, .ref y5, .ref y6, .int 0, .int 30, .int 6, .int 0])), (y0, .inl (x.g.2.1, 6, .inl (upd (upd (upd (upd (fun _ => 0) 0 100) 1 100) 2 100) 3 100))), (y1, .inl (x.g.2.1, 6, .inl (fun _ => 0))), (y2, .inl (x.g.2.1, 12, .inl (fun _ => 0))), (y3, .inl (x.g.2.1, 12, .inl (fun _ => 0))), (y4, .inl (x.g.2.1, 12, .inl (fun _ => 0))), (y5, .inl (x.g.2.1, 12, .inl (fun _ => 0))), (y6, .inr (1, [.ref z7, .ref z8, .ref z9, .ref z10])), (z7, .inl (x.g.2.1, 48, .inl (fun _ => 0))), (z8, .inl (x.g.2.1, 48, .inl (fun _ => 0))), (z9, .inl (x.g.2.1, 48, .inl (fun _ => 0))), (z10, .inl (x.g.2.1, 48, .inl (fun _ => 0)))]) 1 rfl (ib_in (by decide)) rfl dX4_init_103 ?_
  refine v_iinc X11 (pc := 104) (v := 4) (L2 := [(1, .int 4), (0, .ref h0)]) dX4_init_104 0 rfl (by decide) (by decide) rfl ?_
  refine v_goto X11 (pc := 107) (tgt := 87) dX4_init_107 (by decide) ?_
  refine v_iload_n X11 (pc := 87) dX4_init_87 rfl 0 rfl ?_
  refine v_aload_n X11 (pc := 88) dX4_init_88 rfl 1 rfl ?_
  refine v_get X11 (pc := 89) (v := .ref y0) uw4 0 rfl rfl 0 (by decide) q_58 rfl rfl dX4_init_89 ?_
  refine v_alen X11 (pc := 92) 1 rfl dX4_init_92 ?_
  refine v_icmpge X11 (pc := 93) (tgt := 110) dX4_init_93 (by decide) (fun c => absurd c (by decide)) (fun _ => ?_)
  refine v_aload_n X11 (pc := 96) dX4_init_96 rfl 1 rfl ?_
  refine v_get X11 (pc := 97) (v := .ref y0) uw4 0 rfl rfl 0 (by decide) q_58 rfl rfl dX4_init_97 ?_
  refine v_iload_n X11 (pc := 100) dX4_init_100 rfl 0 rfl ?_
  refine v_bipush X11 (pc := 101) (v := 100) dX4_init_101 (by decide) ?_
  refine v_iast X11 (pc := 103) (w' := [(h0, .inr (4, [.ref y0, .ref y1, .ref y2, .ref y3, .ref y4, .ref y5, .ref y6, .int 0, .int 30, .int 6, .int 0])), (y0, .inl (x.g.2.1, 6, .inl (upd (upd (upd (upd (upd (fun _ => 0) 0 100) 1 100) 2 100) 3 100) 4 100))), (y1, .inl (x.g.2.1, 6, .inl (fun _ => 0))), (y2, .inl (x.g.2.1, 12, .inl (fun _ => 0))), (y3, .inl (x.g.2.1, 12, .inl (fun _ => 0))), (y4, .inl (x.g.2.1, 12, .inl (fun _ => 0))), (y5, .inl (x.g.2.1, 12, .inl (fun _ => 0))), (y6, .inr (1, [.ref z7, .ref z8, .ref z9, .ref z10])), (z7, .inl (x.g.2.1, 48, .inl (fun _ => 0))), (z8, .inl (x.g.2.1, 48, .inl (fun _ => 0))), (z9, .inl (x.g.2.1, 48, .inl (fun _ => 0))), (z10, .inl (x.g.2.1, 48, .inl (fun _ => 0)))]) 1 rfl (ib_in (by decide)) rfl dX4_init_103 ?_
  refine v_iinc X11 (pc := 104) (v := 5) (L2 := [(1, .int 5), (0, .ref h0)]) dX4_init_104 0 rfl (by decide) (by decide) rfl ?_
  refine v_goto X11 (pc := 107) (tgt := 87) dX4_init_107 (by decide) ?_
  refine v_iload_n X11 (pc := 87) dX4_init_87 rfl 0 rfl ?_
  refine v_aload_n X11 (pc := 88) dX4_init_88 rfl 1 rfl ?_
  refine v_get X11 (pc := 89) (v := .ref y0) uw4 0 rfl rfl 0 (by decide) q_58 rfl rfl dX4_init_89 ?_
  refine v_alen X11 (pc := 92) 1 rfl dX4_init_92 ?_
  refine v_icmpge X11 (pc := 93) (tgt := 110) dX4_init_93 (by decide) (fun c => absurd c (by decide)) (fun _ => ?_)
  refine v_aload_n X11 (pc := 96) dX4_init_96 rfl 1 rfl ?_
  refine v_get X11 (pc := 97) (v := .ref y0) uw4 0 rfl rfl 0 (by decide) q_58 rfl rfl dX4_init_97 ?_
  refine v_iload_n X11 (pc := 100) dX4_init_100 rfl 0 rfl ?_
  refine v_bipush X11 (pc := 101) (v := 100) dX4_init_101 (by decide) ?_
  refine v_iast X11 (pc := 103) (w' := [(h0, .inr (4, [.ref y0, .ref y1, .ref y2, .ref y3, .ref y4, .ref y5, .ref y6, .int 0, .int 30, .int 6, .int 0])), (y0, .inl (x.g.2.1, 6, .inl (upd (upd (upd (upd (upd (upd (fun _ => 0) 0 100) 1 100) 2 100) 3 100) 4 100) 5 100))), (y1, .inl (x.g.2.1, 6, .inl (fun _ => 0))), (y2, .inl (x.g.2.1, 12, .inl (fun _ => 0))), (y3, .inl (x.g.2.1, 12, .inl (fun _ => 0))), (y4, .inl (x.g.2.1, 12, .inl (fun _ => 0))), (y5, .inl (x.g.2.1, 12, .inl (fun _ => 0))), (y6, .inr (1, [.ref z7, .ref z8, .ref z9, .ref z10])), (z7, .inl (x.g.2.1, 48, .inl (fun _ => 0))), (z8, .inl (x.g.2.1, 48, .inl (fun _ => 0))), (z9, .inl (x.g.2.1, 48, .inl (fun _ => 0))), (z10, .inl (x.g.2.1, 48, .inl (fun _ => 0)))]) 1 rfl (ib_in (by decide)) rfl dX4_init_103 ?_
  refine v_iinc X11 (pc := 104) (v := 6) (L2 := [(1, .int 6), (0, .ref h0)]) dX4_init_104 0 rfl (by decide) (by decide) rfl ?_
  refine v_goto X11 (pc := 107) (tgt := 87) dX4_init_107 (by decide) ?_
  refine v_iload_n X11 (pc := 87) dX4_init_87 rfl 0 rfl ?_
  refine v_aload_n X11 (pc := 88) dX4_init_88 rfl 1 rfl ?_
  refine v_get X11 (pc := 89) (v := .ref y0) uw4 0 rfl rfl 0 (by decide) q_58 rfl rfl dX4_init_89 ?_
  refine v_alen X11 (pc := 92) 1 rfl dX4_init_92 ?_
  refine v_icmpge X11 (pc := 93) (tgt := 110) dX4_init_93 (by decide) (fun _ => ?_) (fun c => absurd (show _ ≤ _ by decide) c)
  refine v_perm (w2 := wSt x.g (adL [h0, y0, y1, y2, y3, y4, y5, z7, z8, z9, z10, y6]) st0) [0, 1, 2, 3, 4, 5, 6, 8, 9, 10, 11, 7] rfl rfl ?_
  exact v_cret X11 (pc := 110) (F.al (k := 11) (n := 256)) rfl rfl ⟨adL [h0, y0, y1, y2, y3, y4, y5, z7, z8, z9, z10, y6], rfl, rfl⟩ dX4_init_110
theorem cw_X4_init : CwB yX4_init cX4_init 2 none 0 := ⟨q_33, q_15, by decide, by decide, by decide +kernel⟩

set_option maxHeartbeats 4000000 in
set_option maxRecDepth 100000 in
theorem c_X2_init (l : Launch) (g : Gl) (h0 : Nat) : OkC l g yX2_init cX2_init 2 3 61 61 1340 [.ref h0] [(h0, .inr (2, [.null, .int 0, .int 0]))] (fun w1 => ∃ (a : Nat → Nat) (c : Nat → Nat → Nat), a 0 = h0 ∧ w1 = wHiR g a c (fun _ => 0) (fun _ => st0)) := by
  refine OkC.of RX2 (by decide) rfl rfl (Nat.le_of_ble_eq_true rfl) (fun x hl hg X F => ?_)
  subst hg; subst hl
  have X0 : Cx (x.al 0 0) _ _ _ _ _ := X.al (Nat.zero_le _) (Nat.zero_le _)
  show V (x.al 0 0) [(h0, .inr (2, [.null, .int 0, .int 0]))] [(0, .ref h0)] [] 0
  refine v_aload_n X0 (pc := 0) dX2_init_0 rfl 0 rfl ?_
  refine v_objInit X0 (pc := 1) q_110 q_27 q_28 (by decide) (Nat.le_of_ble_eq_true rfl) dX2_init_1 ?_
  refine v_aload_n X0 (pc := 4) dX2_init_4 rfl 0 rfl ?_
  refine v_iconst X0 (pc := 5) (v := 5) dX2_init_5 (by decide) ?_
  refine v_newq X0 (pc := 6) (N := 5) (k := 1) (n := 5) q_111 F.2.2.2.2.1 (by decide) (by decide) (Nat.le_of_ble_eq_true rfl) rfl rfl (Nat.le_trans (Nat.le_of_ble_eq_true rfl) F.2.2.2.2.2.1) (Nat.le_trans (Nat.le_of_ble_eq_true rfl) F.2.2.2.2.2.2) dX2_init_6 (fun y0 => ?_)
  have X1 := (X.al (Nat.le_trans (Nat.le_of_ble_eq_true rfl) F.2.2.2.2.2.1) (Nat.le_trans (Nat.le_of_ble_eq_true rfl) F.2.2.2.2.2.2) : Cx (x.al 1 5) _ _ _ _ _)
  show V (x.al 1 5) _ _ _ _
  refine v_putF X1 F.2.2.2.1 (pc := 9) (w' := [(h0, .inr (2, [.ref y0, .int 0, .int 0])), (y0, .inl (x.g.2.2.2, 5, .inr (.inr (.inr (.inr (fun _ => none))))))]) uw2 0 rfl rfl 0 (by decide) q_114 rfl tyX2 tyX2_ok nmX2 rfl rfl rfl rfl (Nat.le_of_ble_eq_true rfl) rfl dX2_init_9 ?_
  refine v_aload_n X1 (pc := 12) dX2_init_12 rfl 0 rfl ?_
  refine v_iconst X1 (pc := 13) (v := 0) dX2_init_13 (by decide) ?_
  refine v_put X1 (pc := 14) (w' := [(h0, .inr (2, [.ref y0, .int 0, .int 0])), (y0, .inl (x.g.2.2.2, 5, .inr (.inr (.inr (.inr (fun _ => none))))))]) uw2 0 rfl rfl 1 (by decide) q_115 rfl tyX2 tyX2_ok nmX2 rfl rfl rfl (Nat.le_of_ble_eq_true rfl) rfl dX2_init_14 ?_
  refine v_aload_n X1 (pc := 17) dX2_init_17 rfl 0 rfl ?_
  refine v_iconst X1 (pc := 18) (v := 0) dX2_init_18 (by decide) ?_
  refine v_put X1 (pc := 19) (w' := [(h0, .inr (2, [.ref y0, .int 0, .int 0])), (y0, .inl (x.g.2.2.2, 5, .inr (.inr (.inr (.inr (fun _ => none))))))]) uw2 0 rfl rfl 2 (by decide) q_116 rfl tyX2 tyX2_ok nmX2 rfl rfl rfl (Nat.le_of_ble_eq_true rfl) rfl dX2_init_19 ?_
  refine v_iconst X1 (pc := 22) (v := 0) dX2_init_22 (by decide) ?_
  refine v_istore_n X1 (pc := 23) (L2 := [(1, .int 0), (0, .ref h0)]) dX2_init_23 rfl (by decide) rfl ?_
  refine v_iload_n X1 (pc := 24) dX2_init_24 rfl 0 rfl ?_
  refine v_aload_n X1 (pc := 25) dX2_init_25 rfl 1 rfl ?_
  refine v_get X1 (pc := 26) (v := .ref y0) uw2 0 rfl rfl 0 (by decide) q_114 rfl rfl dX2_init_26 ?_
  refine v_alenR X1 (pc := 29) 1 rfl dX2_init_29 ?_
  refine v_icmpge X1 (pc := 30) (tgt := 52) dX2_init_30 (by decide) (fun c => absurd c (by decide)) (fun _ => ?_)
  refine v_aload_n X1 (pc := 33) dX2_init_33 rfl 1 rfl ?_
  refine v_get X1 (pc := 34) (v := .ref y0) uw2 0 rfl rfl 0 (by decide) q_114 rfl rfl dX2_init_34 ?_
  refine v_iload_n X1 (pc := 37) dX2_init_37 rfl 0 rfl ?_
  refine v_new X1 (pc := 38) (ci := 4) (N := 11) (fs := [.null, .null, .null, .null, .null, .null, .null, .int 0, .int 0, .int 0, .int 0]) (k := 2) (n := 16) uw4 tyX4 tyX4_ok q_111 q_30 q_15 rfl (fun j hj => by match j, hj with | 0, _ => rfl | 1, _ => rfl | 2, _ => rfl | 3, _ => rfl | 4, _ => rfl | 5, _ => rfl | 6, _ => rfl | 7, _ => rfl | 8, _ => rfl | 9, _ => rfl | 10, _ => rfl | j + 11, hj => exact absurd hj (by omega)) rfl rfl (Nat.le_trans (Nat.le_of_ble_eq_true rfl) F.2.2.2.2.2.1) (Nat.le_trans (Nat.le_of_ble_eq_true rfl) F.2.2.2.2.2.2) dX2_init_38 (fun y1 => ?_)
  have X2 := (X.al (Nat.le_trans (Nat.le_of_ble_eq_true rfl) F.2.2.2.2.2.1) (Nat.le_trans (Nat.le_of_ble_eq_true rfl) F.2.2.2.2.2.2) : Cx (x.al 2 16) _ _ _ _ _)
  show V (x.al 2 16) _ _ _ _
  refine v_dup X2 (pc := 41) dX2_init_41 rfl ?_
  refine v_callI X2 F.2.2.2.2.1 (pc := 42) (k := 13) (n := 272) (c_X4_init x.l x.g y1) cw_X4_init q_113 q_32 rfl ⟨by decide, by decide⟩ rfl rfl (Nat.le_trans (Nat.le_of_ble_eq_true rfl) F.2.2.2.2.2.1) (Nat.le_trans (Nat.le_of_ble_eq_true rfl) F.2.2.2.2.2.2) (Nat.le_of_ble_eq_true rfl) dX2_init_42 (fun w2 hw2 => ?_)
  obtain ⟨a2, ea2, rfl⟩ := hw2
  rw [← ea2]
  have X13 := (X.al (Nat.le_trans (Nat.le_of_ble_eq_true rfl) F.2.2.2.2.2.1) (Nat.le_trans (Nat.le_of_ble_eq_true rfl) F.2.2.2.2.2.2) : Cx (x.al 13 272) _ _ _ _ _)
  show V (x.al 13 272) _ _ _ _
  refine v_astq X13 (pc := 45) (w' := ([(h0, .inr (2, [.ref y0, .int 0, .int 0])), (y0, .inl (x.g.2.2.2, 5, .inr (.inr (.inr (.inr (va_up (fun _ => none) 0 (some (a2 0))))))))] ++ wSt x.g a2 st0)) 1 2 rfl rfl (ib_in (by decide)) rfl dX2_init_45 ?_
  refine v_iinc X13 (pc := 46) (v := 1) (L2 := [(1, .int 1), (0, .ref h0)]) dX2_init_46 0 rfl (by decide) (by decide) rfl ?_
  refine v_goto X13 (pc := 49) (tgt := 24) dX2_init_49 (by decide) ?_
  refine v_iload_n X13 (pc := 24) dX2_init_24 rfl 0 rfl ?_
  refine v_aload_n X13 (pc := 25) dX2_init_25 rfl 1 rfl ?_
  refine v_get X13 (pc := 26) (v := .ref y0) uw2 0 rfl rfl 0 (by decide) q_114 rfl rfl dX2_init_26 ?_
  refine v_alenR X13 (pc := 29) 1 rfl dX2_init_29 ?_
  refine v_icmpge X13 (pc := 30) (tgt := 52) dX2_init_30 (by decide) (fun c => absurd c (by decide)) (fun _ => ?_)
  refine v_aload_n X13 (pc := 33) dX2_init_33 rfl 1 rfl ?_
  refine v_get X13 (pc := 34) (v := .ref y0) uw2 0 rfl rfl 0 (by decide) q_114 rfl rfl dX2_init_34 ?_
  refine v_iload_n X13 (pc := 37) dX2_init_37 rfl 0 rfl ?_
  refine v_new X13 (pc := 38) (ci := 4) (N := 11) (fs := [.null, .null, .null, .null, .null, .null, .null, .int 0, .int 0, .int 0, .int 0]) (k := 14) (n := 283) uw4 tyX4 tyX4_ok q_111 q_30 q_15 rfl (fun j hj => by match j, hj with | 0, _ => rfl | 1, _ => rfl | 2, _ => rfl | 3, _ => rfl | 4, _ => rfl | 5, _ => rfl | 6, _ => rfl | 7, _ => rfl | 8, _ => rfl | 9, _ => rfl | 10, _ => rfl | j + 11, hj => exact absurd hj (by omega)) rfl rfl (Nat.le_trans (Nat.le_of_ble_eq_true rfl) F.2.2.2.2.2.1) (Nat.le_trans (Nat.le_of_ble_eq_true rfl) F.2.2.2.2.2.2) dX2_init_38 (fun y3 => ?_)
  have X14 := (X.al (Nat.le_trans (Nat.le_of_ble_eq_true rfl) F.2.2.2.2.2.1) (Nat.le_trans (Nat.le_of_ble_eq_true rfl) F.2.2.2.2.2.2) : Cx (x.al 14 283) _ _ _ _ _)
  show V (x.al 14 283) _ _ _ _
  refine v_dup X14 (pc := 41) dX2_init_41 rfl ?_
  refine v_callI X14 F.2.2.2.2.1 (pc := 42) (k := 25) (n := 539) (c_X4_init x.l x.g y3) cw_X4_init q_113 q_32 rfl ⟨by decide, by decide⟩ rfl rfl (Nat.le_trans (Nat.le_of_ble_eq_true rfl) F.2.2.2.2.2.1) (Nat.le_trans (Nat.le_of_ble_eq_true rfl) F.2.2.2.2.2.2) (Nat.le_of_ble_eq_true rfl) dX2_init_42 (fun w4 hw4 => ?_)
  obtain ⟨a4, ea4, rfl⟩ := hw4
  rw [← ea4]
  have X25 := (X.al (Nat.le_trans (Nat.le_of_ble_eq_true rfl) F.2.2.2.2.2.1) (Nat.le_trans (Nat.le_of_ble_eq_true rfl) F.2.2.2.2.2.2) : Cx (x.al 25 539) _ _ _ _ _)
  show V (x.al 25 539) _ _ _ _
  refine v_astq X25 (pc := 45) (w' := (([(h0, .inr (2, [.ref y0, .int 0, .int 0])), (y0, .inl (x.g.2.2.2, 5, .inr (.inr (.inr (.inr (va_up (va_up (fun _ => none) 0 (some (a2 0))) 1 (some (a4 0))))))))] ++ wSt x.g a2 st0) ++ wSt x.g a4 st0)) 1 14 rfl rfl (ib_in (by decide)) rfl dX2_init_45 ?_
  refine v_iinc X25 (pc := 46) (v := 2) (L2 := [(1, .int 2), (0, .ref h0)]) dX2_init_46 0 rfl (by decide) (by decide) rfl ?_
  refine v_goto X25 (pc := 49) (tgt := 24) dX2_init_49 (by decide) ?_
  refine v_iload_n X25 (pc := 24) dX2_init_24 rfl 0 rfl ?_
  refine v_aload_n X25 (pc := 25) dX2_init_25 rfl 1 rfl ?_
  refine v_get X25 (pc := 26) (v := .ref y0) uw2 0 rfl rfl 0 (by decide) q_114 rfl rfl dX2_init_26 ?_
  refine v_alenR X25 (pc := 29) 1 rfl dX2_init_29 ?_
  refine v_icmpge X25 (pc := 30) (tgt := 52) dX2_init_30 (by decide) (fun c => absurd c (by decide)) (fun _ => ?_)
  refine v_aload_n X25 (pc := 33) dX2_init_33 rfl 1 rfl ?_
  refine v_get X25 (pc := 34) (v := .ref y0) uw2 0 rfl rfl 0 (by decide) q_114 rfl rfl dX2_init_34 ?_
  refine v_iload_n X25 (pc := 37) dX2_init_37 rfl 0 rfl ?_
  refine v_new X25 (pc := 38) (ci := 4) (N := 11) (fs := [.null, .null, .null, .null, .null, .null, .null, .int 0, .int 0, .int 0, .int 0]) (k := 26) (n := 550) uw4 tyX4 tyX4_ok q_111 q_30 q_15 rfl (fun j hj => by match j, hj with | 0, _ => rfl | 1, _ => rfl | 2, _ => rfl | 3, _ => rfl | 4, _ => rfl | 5, _ => rfl | 6, _ => rfl | 7, _ => rfl | 8, _ => rfl | 9, _ => rfl | 10, _ => rfl | j + 11, hj => exact absurd hj (by omega)) rfl rfl (Nat.le_trans (Nat.le_of_ble_eq_true rfl) F.2.2.2.2.2.1) (Nat.le_trans (Nat.le_of_ble_eq_true rfl) F.2.2.2.2.2.2) dX2_init_38 (fun y5 => ?_)
  have X26 := (X.al (Nat.le_trans (Nat.le_of_ble_eq_true rfl) F.2.2.2.2.2.1) (Nat.le_trans (Nat.le_of_ble_eq_true rfl) F.2.2.2.2.2.2) : Cx (x.al 26 550) _ _ _ _ _)
  show V (x.al 26 550) _ _ _ _
  refine v_dup X26 (pc := 41) dX2_init_41 rfl ?_
  refine v_callI X26 F.2.2.2.2.1 (pc := 42) (k := 37) (n := 806) (c_X4_init x.l x.g y5) cw_X4_init q_113 q_32 rfl ⟨by decide, by decide⟩ rfl rfl (Nat.le_trans (Nat.le_of_ble_eq_true rfl) F.2.2.2.2.2.1) (Nat.le_trans (Nat.le_of_ble_eq_true rfl) F.2.2.2.2.2.2) (Nat.le_of_ble_eq_true rfl) dX2_init_42 (fun w6 hw6 => ?_)
  obtain ⟨a6, ea6, rfl⟩ := hw6
  rw [← ea6]
  have X37 := (X.al (Nat.le_trans (Nat.le_of_ble_eq_true rfl) F.2.2.2.2.2.1) (Nat.le_trans (Nat.le_of_ble_eq_true rfl) F.2.2.2.2.2.2) : Cx (x.al 37 806) _ _ _ _ _)
  show V (x.al 37 806) _ _ _ _
  refine v_astq X37 (pc := 45) (w' := ((([(h0, .inr (2, [.ref y0, .int 0, .int 0])), (y0, .inl (x.g.2.2.2, 5, .inr (.inr (.inr (.inr (va_up (va_up (va_up (fun _ => none) 0 (some (a2 0))) 1 (some (a4 0))) 2 (some (a6 0))))))))] ++ wSt x.g a2 st0) ++ wSt x.g a4 st0) ++ wSt x.g a6 st0)) 1 26 rfl rfl (ib_in (by decide)) rfl dX2_init_45 ?_
  refine v_iinc X37 (pc := 46) (v := 3) (L2 := [(1, .int 3), (0, .ref h0)]) dX2_init_46 0 rfl (by decide) (by decide) rfl ?_
  refine v_goto X37 (pc := 49) (tgt := 24) dX2_init_49 (by decide) ?_
  refine v_iload_n X37 (pc := 24) dX2_init_24 rfl 0 rfl ?_
  refine v_aload_n X37 (pc := 25) dX2_init_25 rfl 1 rfl ?_
  refine v_get X37 (pc := 26) (v := .ref y0) uw2 0 rfl rfl 0 (by decide) q_114 rfl rfl dX2_init_26 ?_
  refine v_alenR X37 (pc := 29) 1 rfl dX2_init_29 ?_
  refine v_icmpge X37 (pc := 30) (tgt := 52) dX2_init_30 (by decide) (fun c => absurd c (by decide)) (fun _ => ?_)
  refine v_aload_n X37 (pc := 33) dX2_init_33 rfl 1 rfl ?_
  refine v_get X37 (pc := 34) (v := .ref y0) uw2 0 rfl rfl 0 (by decide) q_114 rfl rfl dX2_init_34 ?_
  refine v_iload_n X37 (pc := 37) dX2_init_37 rfl 0 rfl ?_
  refine v_new X37 (pc := 38) (ci := 4) (N := 11) (fs := [.null, .null, .null, .null, .null, .null, .null, .int 0, .int 0, .int 0, .int 0]) (k := 38) (n := 817) uw4 tyX4 tyX4_ok q_111 q_30 q_15 rfl (fun j hj => by match j, hj with | 0, _ => rfl | 1, _ => rfl | 2, _ => rfl | 3, _ => rfl | 4, _ => rfl | 5, _ => rfl | 6, _ => rfl | 7, _ => rfl | 8, _ => rfl | 9, _ => rfl | 10, _ => rfl | j + 11, hj => exact absurd hj (by omega)) rfl rfl (Nat.le_trans (Nat.le_of_ble_eq_true rfl) F.2.2.2.2.2.1) (Nat.le_trans (Nat.le_of_ble_eq_true rfl) F.2.2.2.2.2.2) dX2_init_38 (fun y7 => ?_)
  have X38 := (X.al (Nat.le_trans (Nat.le_of_ble_eq_true rfl) F.2.2.2.2.2.1) (Nat.le_trans (Nat.le_of_ble_eq_true rfl) F.2.2.2.2.2.2) : Cx (x.al 38 817) _ _ _ _ _)
  show V (x.al 38 817) _ _ _ _
  refine v_dup X38 (pc := 41) dX2_init_41 rfl ?_
  refine v_callI X38 F.2.2.2.2.1 (pc := 42) (k := 49) (n := 1073) (c_X4_init x.l x.g y7) cw_X4_init q_113 q_32 rfl ⟨by decide, by decide⟩ rfl rfl (Nat.le_trans (Nat.le_of_ble_eq_true rfl) F.2.2.2.2.2.1) (Nat.le_trans (Nat.le_of_ble_eq_true rfl) F.2.2.2.2.2.2) (Nat.le_of_ble_eq_true rfl) dX2_init_42 (fun w8 hw8 => ?_)
  obtain ⟨a8, ea8, rfl⟩ := hw8
  rw [← ea8]
  have X49 := (X.al (Nat.le_trans (Nat.le_of_ble_eq_true rfl) F.2.2.2.2.2.1) (Nat.le_trans (Nat.le_of_ble_eq_true rfl) F.2.2.2.2.2.2) : Cx (x.al 49 1073) _ _ _ _ _)
  show V (x.al 49 1073) _ _ _ _
  refine v_astq X49 (pc := 45) (w' := (((([(h0, .inr (2, [.ref y0, .int 0, .int 0])), (y0, .inl (x.g.2.2.2, 5, .inr (.inr (.inr (.inr (va_up (va_up (va_up (va_up (fun _ => none) 0 (some (a2 0))) 1 (some (a4 0))) 2 (some (a6 0))) 3 (some (a8 0))))))))] ++ wSt x.g a2 st0) ++ wSt x.g a4 st0) ++ wSt x.g a6 st0) ++ wSt x.g a8 st0)) 1 38 rfl rfl (ib_in (by decide)) rfl dX2_init_45 ?_
  refine v_iinc X49 (pc := 46) (v := 4) (L2 := [(1, .int 4), (0, .ref h0)]) dX2_init_46 0 rfl (by decide) (by decide) rfl ?_
  refine v_goto X49 (pc := 49) (tgt := 24) dX2_init_49 (by decide) ?_
  refine v_iload_n X49 (pc := 24) dX2_init_24 rfl 0 rfl ?_
  refine v_aload_n X49 (pc := 25) dX2_init_25 rfl 1 rfl ?_
  refine v_get X49 (pc := 26) (v := .ref y0) uw2 0 rfl rfl 0 (by decide) q_114 rfl rfl dX2_init_26 ?_
  refine v_alenR X49 (pc := 29) 1 rfl dX2_init_29 ?_
  refine v_icmpge X49 (pc := 30) (tgt := 52) dX2_init_30 (by decide) (fun c => absurd c (by decide)) (fun _ => ?_)
  refine v_aload_n X49 (pc := 33) dX2_init_33 rfl 1 rfl ?_
  refine v_get X49 (pc := 34) (v := .ref y0) uw2 0 rfl rfl 0 (by decide) q_114 rfl rfl dX2_init_34 ?_
  refine v_iload_n X49 (pc := 37) dX2_init_37 rfl 0 rfl ?_
  refine v_new X49 (pc := 38) (ci := 4) (N := 11) (fs := [.null, .null, .null, .null, .null, .null, .null, .int 0, .int 0, .int 0, .int 0]) (k := 50) (n := 1084) uw4 tyX4 tyX4_ok q_111 q_30 q_15 rfl (fun j hj => by match j, hj with | 0, _ => rfl | 1, _ => rfl | 2, _ => rfl | 3, _ => rfl | 4, _ => rfl | 5, _ => rfl | 6, _ => rfl | 7, _ => rfl | 8, _ => rfl | 9, _ => rfl | 10, _ => rfl | j + 11, hj => exact absurd hj (by omega)) rfl rfl (Nat.le_trans (Nat.le_of_ble_eq_true rfl) F.2.2.2.2.2.1) (Nat.le_trans (Nat.le_of_ble_eq_true rfl) F.2.2.2.2.2.2) dX2_init_38 (fun y9 => ?_)
  have X50 := (X.al (Nat.le_trans (Nat.le_of_ble_eq_true rfl) F.2.2.2.2.2.1) (Nat.le_trans (Nat.le_of_ble_eq_true rfl) F.2.2.2.2.2.2) : Cx (x.al 50 1084) _ _ _ _ _)
  show V (x.al 50 1084) _ _ _ _
  refine v_dup X50 (pc := 41) dX2_init_41 rfl ?_
  refine v_callI X50 F.2.2.2.2.1 (pc := 42) (k := 61) (n := 1340) (c_X4_init x.l x.g y9) cw_X4_init q_113 q_32 rfl ⟨by decide, by decide⟩ rfl rfl (Nat.le_trans (Nat.le_of_ble_eq_true rfl) F.2.2.2.2.2.1) (Nat.le_trans (Nat.le_of_ble_eq_true rfl) F.2.2.2.2.2.2) (Nat.le_of_ble_eq_true rfl) dX2_init_42 (fun w10 hw10 => ?_)
  obtain ⟨a10, ea10, rfl⟩ := hw10
  rw [← ea10]
  have X61 := (X.al (Nat.le_trans (Nat.le_of_ble_eq_true rfl) F.2.2.2.2.2.1) (Nat.le_trans (Nat.le_of_ble_eq_true rfl) F.2.2.2.2.2.2) : Cx (x.al 61 1340) _ _ _ _ _)
  show V (x.al 61 1340) _ _ _ _
  refine v_astq X61 (pc := 45) (w' := ((((([(h0, .inr (2, [.ref y0, .int 0, .int 0])), (y0, .inl (x.g.2.2.2, 5, .inr (.inr (.inr (.inr (va_up (va_up (va_up (va_up (va_up (fun _ => none) 0 (some (a2 0))) 1 (some (a4 0))) 2 (some (a6 0))) 3 (some (a8 0))) 4 (some (a10 0))))))))] ++ wSt x.g a2 st0) ++ wSt x.g a4 st0) ++ wSt x.g a6 st0) ++ wSt x.g a8 st0) ++ wSt x.g a10 st0)) 1 50 rfl rfl (ib_in (by decide)) rfl dX2_init_45 ?_
  refine v_iinc X61 (pc := 46) (v := 5) (L2 := [(1, .int 5), (0, .ref h0)]) dX2_init_46 0 rfl (by decide) (by decide) rfl ?_
  refine v_goto X61 (pc := 49) (tgt := 24) dX2_init_49 (by decide) ?_
  refine v_iload_n X61 (pc := 24) dX2_init_24 rfl 0 rfl ?_
  refine v_aload_n X61 (pc := 25) dX2_init_25 rfl 1 rfl ?_
  refine v_get X61 (pc := 26) (v := .ref y0) uw2 0 rfl rfl 0 (by decide) q_114 rfl rfl dX2_init_26 ?_
  refine v_alenR X61 (pc := 29) 1 rfl dX2_init_29 ?_
  refine v_icmpge X61 (pc := 30) (tgt := 52) dX2_init_30 (by decide) (fun _ => ?_) (fun c => absurd (show _ ≤ _ by decide) c)
  refine v_perm (w2 := wHiR x.g (adL [h0, y0]) (fun j => [a2, a4, a6, a8, a10].getD j (fun _ => 0)) (fun _ => 0) (fun _ => st0)) [0, 1, 2, 3, 4, 5, 6, 7, 8, 9, 10, 11, 12, 13, 14, 15, 16, 17, 18, 19, 20, 21, 22, 23, 24, 25, 26, 27, 28, 29, 30, 31, 32, 33, 34, 35, 36, 37, 38, 39, 40, 41, 42, 43, 44, 45, 46, 47, 48, 49, 50, 51, 52, 53, 54, 55, 56, 57, 58, 59, 60, 61] rfl rfl ?_
  exact v_cret X61 (pc := 52) (F.al (k := 61) (n := 1340)) rfl rfl ⟨adL [h0, y0], fun j => [a2, a4, a6, a8, a10].getD j (fun _ => 0), rfl, rfl⟩ dX2_init_52
theorem cw_X2_init : CwB yX2_init cX2_init 2 none 0 := ⟨q_109, q_17, by decide, by decide, by decide +kernel⟩

set_option maxHeartbeats 4000000 in
set_option maxRecDepth 100000 in
theorem c_X5_init (l : Launch) (g : Gl) (h0 : Nat) : OkC l g yX5_init cX5_init 1 4 82 102 2217 [.ref h0] [(h0, .inr (5, [.null, .null, .null, .null, .null, .null, .int 0]))] (fun w1 => ∃ b : Nat → Nat → Nat, b 11 0 = h0 ∧ w1 = wHS g b 0 st0 st0 st0 (fun _ => 0) (fun _ => st0) (fun _ => 0) (fun _ _ => 0)) := by
  refine OkC.of RX5 (by decide) rfl rfl (Nat.le_of_ble_eq_true rfl) (fun x hl hg X F => ?_)
  subst hg; subst hl
  have X0 : Cx (x.al 0 0) _ _ _ _ _ := X.al (Nat.zero_le _) (Nat.zero_le _)
  show V (x.al 0 0) [(h0, .inr (5, [.null, .null, .null, .null, .null, .null, .int 0]))] [(0, .ref h0)] [] 0
  refine v_aload_n X0 (pc := 0) dX5_init_0 rfl 0 rfl ?_
  refine v_objInit X0 (pc := 1) q_26 q_27 q_28 (by decide) (Nat.le_of_ble_eq_true rfl) dX5_init_1 ?_
  refine v_aload_n X0 (pc := 4) dX5_init_4 rfl 0 rfl ?_
  refine v_new X0 (pc := 5) (ci := 4) (N := 11) (fs := [.null, .null, .null, .null, .null, .null, .null, .int 0, .int 0, .int 0, .int 0]) (k := 1) (n := 11) uw4 tyX4 tyX4_ok q_29 q_30 q_15 rfl (fun j hj => by match j, hj with | 0, _ => rfl | 1, _ => rfl | 2, _ => rfl | 3, _ => rfl | 4, _ => rfl | 5, _ => rfl | 6, _ => rfl | 7, _ => rfl | 8, _ => rfl | 9, _ => rfl | 10, _ => rfl | j + 11, hj => exact absurd hj (by omega)) rfl rfl (Nat.le_trans (Nat.le_of_ble_eq_true rfl) F.2.2.2.2.2.1) (Nat.le_trans (Nat.le_of_ble_eq_true rfl) F.2.2.2.2.2.2) dX5_init_5 (fun y0 => ?_)
  have X1 := (X.al (Nat.le_trans (Nat.le_of_ble_eq_true rfl) F.2.2.2.2.2.1) (Nat.le_trans (Nat.le_of_ble_eq_true rfl) F.2.2.2.2.2.2) : Cx (x.al 1 11) _ _ _ _ _)
  show V (x.al 1 11) _ _ _ _
  refine v_dup X1 (pc := 8) dX5_init_8 rfl ?_
  refine v_callI X1 F.2.2.2.2.1 (pc := 9) (k := 12) (n := 267) (c_X4_init x.l x.g y0) cw_X4_init q_31 q_32 rfl ⟨by decide, by decide⟩ rfl rfl (Nat.le_trans (Nat.le_of_ble_eq_true rfl) F.2.2.2.2.2.1) (Nat.le_trans (Nat.le_of_ble_eq_true rfl) F.2.2.2.2.2.2) (Nat.le_of_ble_eq_true rfl) dX5_init_9 (fun w1 hw1 => ?_)
  obtain ⟨a1, ea1, rfl⟩ := hw1
  rw [← ea1]
  have X12 := (X.al (Nat.le_trans (Nat.le_of_ble_eq_true rfl) F.2.2.2.2.2.1) (Nat.le_trans (Nat.le_of_ble_eq_true rfl) F.2.2.2.2.2.2) : Cx (x.al 12 267) _ _ _ _ _)
  show V (x.al 12 267) _ _ _ _
  refine v_putF X12 F.2.2.2.1 (pc := 12) (w' := ([(h0, .inr (5, [.ref (a1 0), .null, .null, .null, .null, .null, .int 0]))] ++ wSt x.g a1 st0)) uw5 0 rfl rfl 0 (by decide) q_161 rfl tyX5 tyX5_ok nmX5 rfl rfl rfl rfl (Nat.le_of_ble_eq_true rfl) rfl dX5_init_12 ?_
  refine v_aload_n X12 (pc := 15) dX5_init_15 rfl 0 rfl ?_
  refine v_new X12 (pc := 16) (ci := 4) (N := 11) (fs := [.null, .null, .null, .null, .null, .null, .null, .int 0, .int 0, .int 0, .int 0]) (k := 13) (n := 278) uw4 tyX4 tyX4_ok q_29 q_30 q_15 rfl (fun j hj => by match j, hj with | 0, _ => rfl | 1, _ => rfl | 2, _ => rfl | 3, _ => rfl | 4, _ => rfl | 5, _ => rfl | 6, _ => rfl | 7, _ => rfl | 8, _ => rfl | 9, _ => rfl | 10, _ => rfl | j + 11, hj => exact absurd hj (by omega)) rfl rfl (Nat.le_trans (Nat.le_of_ble_eq_true rfl) F.2.2.2.2.2.1) (Nat.le_trans (Nat.le_of_ble_eq_true rfl) F.2.2.2.2.2.2) dX5_init_16 (fun y2 => ?_)
  have X13 := (X.al (Nat.le_trans (Nat.le_of_ble_eq_true rfl) F.2.2.2.2.2.1) (Nat.le_trans (Nat.le_of_ble_eq_true rfl) F.2.2.2.2.2.2) : Cx (x.al 13 278) _ _ _ _ _)
  show V (x.al 13 278) _ _ _ _
  refine v_dup X13 (pc := 19) dX5_init_19 rfl ?_
  refine v_callI X13 F.2.2.2.2.1 (pc := 20) (k := 24) (n := 534) (c_X4_init x.l x.g y2) cw_X4_init q_31 q_32 rfl ⟨by decide, by decide⟩ rfl rfl (Nat.le_trans (Nat.le_of_ble_eq_true rfl) F.2.2.2.2.2.1) (Nat.le_trans (Nat.le_of_ble_eq_true rfl) F.2.2.2.2.2.2) (Nat.le_of_ble_eq_true rfl) dX5_init_20 (fun w3 hw3 => ?_)
  obtain ⟨a3, ea3, rfl⟩ := hw3
  rw [← ea3]
  have X24 := (X.al (Nat.le_trans (Nat.le_of_ble_eq_true rfl) F.2.2.2.2.2.1) (Nat.le_trans (Nat.le_of_ble_eq_true rfl) F.2.2.2.2.2.2) : Cx (x.al 24 534) _ _ _ _ _)
  show V (x.al 24 534) _ _ _ _
  refine v_putF X24 F.2.2.2.1 (pc := 23) (w' := (([(h0, .inr (5, [.ref (a1 0), .ref (a3 0), .null, .null, .null, .null, .int 0]))] ++ wSt x.g a1 st0) ++ wSt x.g a3 st0)) uw5 0 rfl rfl 1 (by decide) q_162 rfl tyX5 tyX5_ok nmX5 rfl rfl rfl rfl (Nat.le_of_ble_eq_true rfl) rfl dX5_init_23 ?_
  refine v_aload_n X24 (pc := 26) dX5_init_26 rfl 0 rfl ?_
  refine v_new X24 (pc := 27) (ci := 4) (N := 11) (fs := [.null, .null, .null, .null, .null, .null, .null, .int 0, .int 0, .int 0, .int 0]) (k := 25) (n := 545) uw4 tyX4 tyX4_ok q_29 q_30 q_15 rfl (fun j hj => by match j, hj with | 0, _ => rfl | 1, _ => rfl | 2, _ => rfl | 3, _ => rfl | 4, _ => rfl | 5, _ => rfl | 6, _ => rfl | 7, _ => rfl | 8, _ => rfl | 9, _ => rfl | 10, _ => rfl | j + 11, hj => exact absurd hj (by omega)) rfl rfl (Nat.le_trans (Nat.le_of_ble_eq_true rfl) F.2.2.2.2.2.1) (Nat.le_trans (Nat.le_of_ble_eq_true rfl) F.2.2.2.2.2.2) dX5_init_27 (fun y4 => ?_)
  have X25 := (X.al (Nat.le_trans (Nat.le_of_ble_eq_true rfl) F.2.2.2.2.2.1) (Nat.le_trans (Nat.le_of_ble_eq_true rfl) F.2.2.2.2.2.2) : Cx (x.al 25 545) _ _ _ _ _)
  show V (x.al 25 545) _ _ _ _
  refine v_dup X25 (pc := 30) dX5_init_30 rfl ?_
  refine v_callI X25 F.2.2.2.2.1 (pc := 31) (k := 36) (n := 801) (c_X4_init x.l x.g y4) cw_X4_init q_31 q_32 rfl ⟨by decide, by decide⟩ rfl rfl (Nat.le_trans (Nat.le_of_ble_eq_true rfl) F.2.2.2.2.2.1) (Nat.le_trans (Nat.le_of_ble_eq_true rfl) F.2.2.2.2.2.2) (Nat.le_of_ble_eq_true rfl) dX5_init_31 (fun w5 hw5 => ?_)
  obtain ⟨a5, ea5, rfl⟩ := hw5
  rw [← ea5]
  have X36 := (X.al (Nat.le_trans (Nat.le_of_ble_eq_true rfl) F.2.2.2.2.2.1) (Nat.le_trans (Nat.le_of_ble_eq_true rfl) F.2.2.2.2.2.2) : Cx (x.al 36 801) _ _ _ _ _)
  show V (x.al 36 801) _ _ _ _
  refine v_putF X36 F.2.2.2.1 (pc := 34) (w' := ((([(h0, .inr (5, [.ref (a1 0), .ref (a3 0), .ref (a5 0), .null, .null, .null, .int 0]))] ++ wSt x.g a1 st0) ++ wSt x.g a3 st0) ++ wSt x.g a5 st0)) uw5 0 rfl rfl 2 (by decide) q_163 rfl tyX5 tyX5_ok nmX5 rfl rfl rfl rfl (Nat.le_of_ble_eq_true rfl) rfl dX5_init_34 ?_
  refine v_aload_n X36 (pc := 37) dX5_init_37 rfl 0 rfl ?_
  refine v_new X36 (pc := 38) (ci := 2) (N := 3) (fs := [.null, .int 0, .int 0]) (k := 37) (n := 804) uw2 tyX2 tyX2_ok q_105 q_106 q_17 rfl (fun j hj => by match j, hj with | 0, _ => rfl | 1, _ => rfl | 2, _ => rfl | j + 3, hj => exact absurd hj (by omega)) rfl rfl (Nat.le_trans (Nat.le_of_ble_eq_true rfl) F.2.2.2.2.2.1) (Nat.le_trans (Nat.le_of_ble_eq_true rfl) F.2.2.2.2.2.2) dX5_init_38 (fun y6 => ?_)
  have X37 := (X.al (Nat.le_trans (Nat.le_of_ble_eq_true rfl) F.2.2.2.2.2.1) (Nat.le_trans (Nat.le_of_ble_eq_true rfl) F.2.2.2.2.2.2) : Cx (x.al 37 804) _ _ _ _ _)
  show V (x.al 37 804) _ _ _ _
  refine v_dup X37 (pc := 41) dX5_init_41 rfl ?_
  refine v_callI X37 F.2.2.2.2.1 (pc := 42) (k := 98) (n := 2144) (c_X2_init x.l x.g y6) cw_X2_init q_107 q_108 rfl ⟨by decide, by decide⟩ rfl rfl (Nat.le_trans (Nat.le_of_ble_eq_true rfl) F.2.2.2.2.2.1) (Nat.le_trans (Nat.le_of_ble_eq_true rfl) F.2.2.2.2.2.2) (Nat.le_of_ble_eq_true rfl) dX5_init_42 (fun w7 hw7 => ?_)
  obtain ⟨a7, c7, ea7, rfl⟩ := hw7
  rw [← ea7]
  have X98 := (X.al (Nat.le_trans (Nat.le_of_ble_eq_true rfl) F.2.2.2.2.2.1) (Nat.le_trans (Nat.le_of_ble_eq_true rfl) F.2.2.2.2.2.2) : Cx (x.al 98 2144) _ _ _ _ _)
  show V (x.al 98 2144) _ _ _ _
  refine v_putF X98 F.2.2.2.1 (pc := 45) (w' := (((([(h0, .inr (5, [.ref (a1 0), .ref (a3 0), .ref (a5 0), .ref (a7 0), .null, .null, .int 0]))] ++ wSt x.g a1 st0) ++ wSt x.g a3 st0) ++ wSt x.g a5 st0) ++ wHiR x.g a7 c7 (fun _ => 0) (fun _ => st0))) uw5 0 rfl rfl 3 (by decide) q_164 rfl tyX5 tyX5_ok nmX5 rfl rfl rfl rfl (Nat.le_of_ble_eq_true rfl) rfl dX5_init_45 ?_
  refine v_aload_n X98 (pc := 48) dX5_init_48 rfl 0 rfl ?_
  refine v_new X98 (pc := 49) (ci := 0) (N := 1) (fs := [.null]) (k := 99) (n := 2145) uw0 tyX0 tyX0_ok q_125 q_126 q_18 rfl (fun j hj => by match j, hj with | 0, _ => rfl | j + 1, hj => exact absurd hj (by omega)) rfl rfl (Nat.le_trans (Nat.le_of_ble_eq_true rfl) F.2.2.2.2.2.1) (Nat.le_trans (Nat.le_of_ble_eq_true rfl) F.2.2.2.2.2.2) dX5_init_49 (fun y8 => ?_)
  have X99 := (X.al (Nat.le_trans (Nat.le_of_ble_eq_true rfl) F.2.2.2.2.2.1) (Nat.le_trans (Nat.le_of_ble_eq_true rfl) F.2.2.2.2.2.2) : Cx (x.al 99 2145) _ _ _ _ _)
  show V (x.al 99 2145) _ _ _ _
  refine v_dup X99 (pc := 52) dX5_init_52 rfl ?_
  refine v_callIN X99 F.2.2.2.2.1 (pc := 53) (k := 100) (n := 2151) (c_X0_init x.l x.g y8) cw_X0_init k_18 q_128 rfl ⟨by decide, by decide⟩ rfl rfl (Nat.le_trans (Nat.le_of_ble_eq_true rfl) F.2.2.2.2.2.1) (Nat.le_trans (Nat.le_of_ble_eq_true rfl) F.2.2.2.2.2.2) (Nat.le_of_ble_eq_true rfl) dX5_init_53 (fun w9 hw9 => ?_)
  obtain ⟨a9, ea9, rfl⟩ := hw9
  rw [← ea9]
  have X100 := (X.al (Nat.le_trans (Nat.le_of_ble_eq_true rfl) F.2.2.2.2.2.1) (Nat.le_trans (Nat.le_of_ble_eq_true rfl) F.2.2.2.2.2.2) : Cx (x.al 100 2151) _ _ _ _ _)
  show V (x.al 100 2151) _ _ _ _
  refine v_putF X100 F.2.2.2.1 (pc := 56) (w' := ((((([(h0, .inr (5, [.ref (a1 0), .ref (a3 0), .ref (a5 0), .ref (a7 0), .ref (a9 0), .null, .int 0]))] ++ wSt x.g a1 st0) ++ wSt x.g a3 st0) ++ wSt x.g a5 st0) ++ wHiR x.g a7 c7 (fun _ => 0) (fun _ => st0)) ++ wCl x.g a9 (fun _ => 0))) uw5 0 rfl rfl 4 (by decide) q_165 rfl tyX5 tyX5_ok nmX5 rfl rfl rfl rfl (Nat.le_of_ble_eq_true rfl) rfl dX5_init_56 ?_
  refine v_aload_n X100 (pc := 59) dX5_init_59 rfl 0 rfl ?_
  refine v_new X100 (pc := 60) (ci := 3) (N := 6) (fs := [.null, .int 0, .int 0, .int 0, .int 0, .int 0]) (k := 101) (n := 2157) uw3 tyX3 tyX3_ok q_135 q_136 q_19 rfl (fun j hj => by match j, hj with | 0, _ => rfl | 1, _ => rfl | 2, _ => rfl | 3, _ => rfl | 4, _ => rfl | 5, _ => rfl | j + 6, hj => exact absurd hj (by omega)) rfl rfl (Nat.le_trans (Nat.le_of_ble_eq_true rfl) F.2.2.2.2.2.1) (Nat.le_trans (Nat.le_of_ble_eq_true rfl) F.2.2.2.2.2.2) dX5_init_60 (fun y10 => ?_)
  have X101 := (X.al (Nat.le_trans (Nat.le_of_ble_eq_true rfl) F.2.2.2.2.2.1) (Nat.le_trans (Nat.le_of_ble_eq_true rfl) F.2.2.2.2.2.2) : Cx (x.al 101 2157) _ _ _ _ _)
  show V (x.al 101 2157) _ _ _ _
  refine v_dup X101 (pc := 63) dX5_init_63 rfl ?_
  refine v_callIN X101 F.2.2.2.2.1 (pc := 64) (k := 102) (n := 2217) (c_X3_init x.l x.g y10) cw_X3_init k_19 q_138 rfl ⟨by decide, by decide⟩ rfl rfl (Nat.le_trans (Nat.le_of_ble_eq_true rfl) F.2.2.2.2.2.1) (Nat.le_trans (Nat.le_of_ble_eq_true rfl) F.2.2.2.2.2.2) (Nat.le_of_ble_eq_true rfl) dX5_init_64 (fun w11 hw11 => ?_)
  obtain ⟨a11, ea11, rfl⟩ := hw11
  rw [← ea11]
  have X102 := (X.al (Nat.le_trans (Nat.le_of_ble_eq_true rfl) F.2.2.2.2.2.1) (Nat.le_trans (Nat.le_of_ble_eq_true rfl) F.2.2.2.2.2.2) : Cx (x.al 102 2217) _ _ _ _ _)
  show V (x.al 102 2217) _ _ _ _
  refine v_putF X102 F.2.2.2.1 (pc := 67) (w' := (((((([(h0, .inr (5, [.ref (a1 0), .ref (a3 0), .ref (a5 0), .ref (a7 0), .ref (a9 0), .ref (a11 0), .int 0]))] ++ wSt x.g a1 st0) ++ wSt x.g a3 st0) ++ wSt x.g a5 st0) ++ wHiR x.g a7 c7 (fun _ => 0) (fun _ => st0)) ++ wCl x.g a9 (fun _ => 0)) ++ wSc x.g a11 (fun _ _ => 0))) uw5 0 rfl rfl 5 (by decide) q_166 rfl tyX5 tyX5_ok nmX5 rfl rfl rfl rfl (Nat.le_of_ble_eq_true rfl) rfl dX5_init_67 ?_
  refine v_aload_n X102 (pc := 70) dX5_init_70 rfl 0 rfl ?_
  refine v_iconst X102 (pc := 71) (v := 0) dX5_init_71 (by decide) ?_
  refine v_put X102 (pc := 72) (w' := (((((([(h0, .inr (5, [.ref (a1 0), .ref (a3 0), .ref (a5 0), .ref (a7 0), .ref (a9 0), .ref (a11 0), .int 0]))] ++ wSt x.g a1 st0) ++ wSt x.g a3 st0) ++ wSt x.g a5 st0) ++ wHiR x.g a7 c7 (fun _ => 0) (fun _ => st0)) ++ wCl x.g a9 (fun _ => 0)) ++ wSc x.g a11 (fun _ _ => 0))) uw5 0 rfl rfl 6 (by decide) q_167 rfl tyX5 tyX5_ok nmX5 rfl (by decide) (by decide) (Nat.le_of_ble_eq_true rfl) rfl dX5_init_72 ?_
  obtain ⟨b, eb⟩ : ∃ b : Nat → Nat → Nat, b = (fun i => match i with | 0 => a1 | 1 => a3 | 2 => a5 | 8 => a7 | 9 => a9 | 10 => a11 | 11 => (fun _ => h0) | i => c7 (i - 3)) := ⟨_, rfl⟩
  refine v_ring (f2 := fun j => some (b (j + 3) 0)) 38 rfl (fun j hj => by subst eb; match j, hj with | 0, _ => rfl | 1, _ => rfl | 2, _ => rfl | 3, _ => rfl | 4, _ => rfl | j + 5, hj => exact absurd hj (by omega)) rfl ?_
  refine v_perm (w2 := wHS x.g b 0 st0 st0 st0 (fun _ => 0) (fun _ => st0) (fun _ => 0) (fun _ _ => 0)) [0, 1, 2, 3, 4, 5, 6, 7, 8, 9, 10, 11, 12, 13, 14, 15, 16, 17, 18, 19, 20, 21, 22, 23, 24, 25, 26, 27, 28, 29, 30, 31, 32, 33, 34, 35, 36, 37, 38, 39, 40, 41, 42, 43, 44, 45, 46, 47, 48, 49, 50, 51, 52, 53, 54, 55, 56, 57, 58, 59, 60, 61, 62, 63, 64, 65, 66, 67, 68, 69, 70, 71, 72, 73, 74, 75, 76, 77, 78, 79, 80, 81, 82, 83, 84, 85, 86, 87, 88, 89, 90, 91, 92, 93, 94, 95, 96, 97, 98, 99, 100, 101, 102] rfl (by subst eb; rfl) ?_
  exact v_cret X102 (pc := 75) (F.al (k := 102) (n := 2217)) rfl rfl ⟨b, by subst eb; rfl, rfl⟩ dX5_init_75
theorem cw_X5_init : CwB yX5_init cX5_init 1 none 0 := ⟨q_25, q_14, by decide, by decide, by decide +kernel⟩
