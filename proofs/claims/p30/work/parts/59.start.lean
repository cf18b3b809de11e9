theorem arr_of {s : State} {av : Array Value} {ty : FieldType} (h : (Cond.arrayClass ty).before av s = true) : ∃ cA : ClassId, ArrOfT s cA ty ∧ s.vm.findClass ("[" ++ ty.toString) = some cA := by
  obtain ⟨cA, k, comp, h1, h2, h3⟩ := Cond.arrayClass_spec h
  exact ⟨cA, fun n z => ⟨(fun k h => by cases h), k, h2, comp, h3⟩, h1⟩
theorem nst_drawn {s : State} (d : Drawn) (h : ∀ w ∈ lw_nst, va_Nw w s) : ∀ w ∈ lw_nst, va_Nw w (s.setDrawn d) := by
  intro w hw
  have hk : lw_isNst w = true := List.all_eq_true.mp lw_nst_all w hw
  have ho : w.onTables = true := by
    cases w <;> first | rfl | (simp [lw_isNst] at hk)
  exact va_Nw.same ho (u := s) (U := s.setDrawn d) rfl (h w hw)
set_option maxHeartbeats 4000000 in
set_option maxRecDepth 100000 in
theorem whole_start {p : Program} {e : Env} {s : State} {m : MethodId} {below : List Frame} {meth : Method} {c : Code} (l : Launch) (hflags : l.flags = flags0) {b L : Nat} {xs : Nat → Int32} (hL : L ≤ 260) (C0 : lw_At p s m meth c b L xs) : W p l e room_1 s m #[Value.ref b] below meth c s.heap [] 0 0 (lw_Z below #[Value.ref b] s) (entryFrame m ([Value.ref b] : List Value).toArray 11) := by
  obtain ⟨hx, hb, hr, hml, hown, hts0, hX, hbl, hlocks, hgv⟩ := id C0
  have hts : ∀ w ∈ lw_all, w.before #[Value.ref b] s = true := fun w h => hts0 w (lw_all_tbl h)
  obtain ⟨c0, s0, k0⟩ := u_known (C := RX0) (T := TX0) (N := 1) (n := 1) hts uw0 (hts _ q_126)
  obtain ⟨c1, s1, k1⟩ := u_known (C := RX1) (T := TX1) (N := 4) (n := 4) hts uw1 (hts _ q_36)
  obtain ⟨c2, s2, k2⟩ := u_known (C := RX2) (T := TX2) (N := 3) (n := 3) hts uw2 (hts _ q_106)
  obtain ⟨c3, s3, k3⟩ := u_known (C := RX3) (T := TX3) (N := 6) (n := 6) hts uw3 (hts _ q_136)
  obtain ⟨c4, s4, k4⟩ := u_known (C := RX4) (T := TX4) (N := 11) (n := 11) hts uw4 (hts _ q_30)
  obtain ⟨c5, s5, k5⟩ := u_known (C := RX5) (T := TX5) (N := 7) (n := 7) hts uw5 (hts _ q_22)
  obtain ⟨dC, dI, hKc⟩ : ∃ (dC : Nat → ClassId) (dI : Nat → Nat → Nat), ∀ (k : Nat) (q : vw_C), vwCl[k]? = some q → u_Kn s q.1 q.2.1 q.2.2 (dC k) (dI k) := by
    refine ⟨fun k => match k with | 0 => c0 | 1 => c1 | 2 => c2 | 3 => c3 | 4 => c4 | _ => c5, fun k => match k with | 0 => s0 | 1 => s1 | 2 => s2 | 3 => s3 | 4 => s4 | _ => s5, ?_⟩
    intro k q hq
    match k, hq with
    | 0, hq => cases hq; exact k0
    | 1, hq => cases hq; exact k1
    | 2, hq => cases hq; exact k2
    | 3, hq => cases hq; exact k3
    | 4, hq => cases hq; exact k4
    | 5, hq => cases hq; exact k5
    | k + 6, hq => simp [vwCl] at hq
  obtain ⟨aI, hI1, hI2⟩ := arr_of (hts _ q_57)
  have hao : va_AO RX4 s := va_AO.of (hts0 _ ao_tbl)
  obtain ⟨comp, aS, kS, o1, o2, o3, o4, o5⟩ := Cond.arrayOver_spec (hts0 _ ao_tbl)
  have hK : va_K (dC, dI) vwCl (TY ((dC, dI), aI, aI, aS)) s := by
    refine ⟨hKc, fun k q hq => ?_⟩
    match k, hq with
    | 0, hq => cases hq; exact ⟨hI1, hI2⟩
    | 1, hq => cases hq; exact ⟨fun n z => ⟨(fun k h => by cases h), kS, o3, comp, o4⟩, kS, comp, o3, o4, o1, o5⟩
    | k + 2, hq => simp [TY] at hq
  have hN : ∀ w ∈ lw_nst, va_Nw w s := fun w hw => by
    have hk : lw_isNst w = true := List.all_eq_true.mp lw_nst_all w hw
    have ho : w.onTables = true := by
      cases w <;> first | rfl | (simp [lw_isNst] at hk)
    exact va_Nw.of ho (hts0 w (lw_nst_tbl w hw))
  have hP : va_P (dC, dI) vwCl [] s.heap := fun k q h => by simp at h
  have hD : va_D (fun q : Nat => s.heap.size ≤ q) [] := ⟨fun i j p q h => by simp at h, fun k q h => by simp at h⟩
  refine W.base ?_
  have hl := lv_entry ([.ref b]) (n := 11) (Nat.le_of_ble_eq_true rfl)
  rw [lg_entry_eq]
  let x : Ctx := ((p, l, e, room_1), (s.setDrawn s.drawn, m, #[Value.ref b], below), (meth, c, 0, 0), (((dC, dI), aI, aI, aS), (fun q => s.heap.size ≤ q), 11, lw_Z below #[Value.ref b] s))
  have X : Cx x RL cL_law 11 11 442 := ⟨hx, hb, hml, hown, dr_words hts _, nst_drawn _ hN, hK, fun q h => h, Nat.le_of_ble_eq_true rfl, Nat.le_of_ble_eq_true rfl, Nat.zero_le _, Nat.zero_le _, rfl⟩
  have hao' : va_AO RX4 x.s := va_AO.moved (u := s) (U := s.setDrawn s.drawn) (Vm.Alike.refl s.vm) hao
  suffices K : V x [] [(0, .ref b)] [] 0 from K s.heap [] _ hP hD va_S.rf hl
  refine v_new X (pc := 0) (ci := 5) (N := 7) (fs := [.null, .null, .null, .null, .null, .null, .int 0]) (k := 1) (n := 7) uw5 tyX5 tyX5_ok q_21 q_22 q_14 rfl (fun j hj => by match j, hj with | 0, _ => rfl | 1, _ => rfl | 2, _ => rfl | 3, _ => rfl | 4, _ => rfl | 5, _ => rfl | 6, _ => rfl | j + 7, hj => exact absurd hj (by omega)) rfl rfl (Nat.le_of_ble_eq_true rfl) (Nat.le_of_ble_eq_true rfl) dL_law_0 (fun y0 => ?_)
  have X1 : Cx (x.al 1 7) RL cL_law 11 11 442 := X.al (Nat.le_of_ble_eq_true rfl) (Nat.le_of_ble_eq_true rfl)
  refine v_dup X1 (pc := 3) dL_law_3 rfl ?_
  refine v_callI X1 hao' (pc := 4) (k := 103) (n := 2224) (wr := []) (c_X5_init l ((dC, dI), aI, aI, aS) y0) cw_X5_init q_23 q_24 rfl ⟨by decide, by decide⟩ rfl rfl (Nat.le_of_ble_eq_true rfl) (Nat.le_of_ble_eq_true rfl) (Nat.le_of_ble_eq_true rfl) dL_law_4 (fun w1 hw1 => ?_)
  obtain ⟨bb, eb, rfl⟩ := hw1
  rw [← eb]
  have X2 : Cx (LC p l e s m b below meth c ((dC, dI), aI, aI, aS) s.drawn) RL cL_law 11 11 442 := X.al (Nat.le_of_ble_eq_true rfl) (Nat.le_of_ble_eq_true rfl)
  have hR : 8 ≤ 11 ∧ 200 ≤ 442 := ⟨by decide, by decide⟩
  show V (LC p l e s m b below meth c ((dC, dI), aI, aI, aS) s.drawn) (wHS ((dC, dI), aI, aI, aS) bb 0 st0 st0 st0 (fun _ => 0) (fun _ => st0) (fun _ => 0) (fun _ _ => 0)) [(0, .ref b)] [.ref (bb 11 0)] 7
  refine v_astore_n X2 (pc := 7) (L2 := [(1, .ref (bb 11 0)), (0, .ref b)]) dL_law_7 rfl (by decide) rfl ?_
  refine v_aload_n X2 (pc := 8) dL_law_8 rfl 0 rfl ?_
  refine v_callV X2 (pc := 9) (st1 := [.int (-100005)]) (w' := (wHS ((dC, dI), aI, aI, aS) bb 0 st0 st0 st0 (fun _ => 0) (fun _ => st0) (fun _ => 0) (fun _ _ => 0))) [] [] (c_X5_undo l ((dC, dI), aI, aI, aS) bb 0 st0 st0 st0 (fun _ => 0) (fun _ => st0) (fun _ => 0) (fun _ _ => 0) (k_undo0 st_0 st0 (fun _ => 0) (fun _ _ => 0))) rfl rfl cw_X5_undo q_183 q_184 q_185 ⟨by decide, by decide⟩ 0 5 rfl rfl rfl (Fr.all rfl) rfl (Nat.le_of_ble_eq_true rfl) dL_law_9 ?_
  refine v_ldc X2 (pc := 12) (v := (-100005)) q_528 dL_law_12 ?_
  refine v_icmpne X2 (pc := 14) (tgt := 40) dL_law_14 (by decide) (fun cc => False.elim (cc rfl)) (fun _ => ?_)
  refine v_aload_n X2 (pc := 17) dL_law_17 rfl 0 rfl ?_
  refine v_callV X2 (pc := 18) (st1 := [.int (-100004)]) (w' := (wHS ((dC, dI), aI, aI, aS) bb 0 st0 st0 st0 (fun _ => 0) (fun _ => st0) (fun _ => 0) (fun _ _ => 0))) [] [] (c_X5_restore l ((dC, dI), aI, aI, aS) bb 0 st0 st0 st0 (fun _ => 0) (fun _ => st0) (fun _ => 0) (fun _ _ => 0) (k_restore0 st_0 st0 (fun _ => 0) (fun _ _ => 0))) rfl rfl cw_X5_restore q_223 q_224 q_225 ⟨by decide, by decide⟩ 0 5 rfl rfl rfl (Fr.all rfl) rfl (Nat.le_of_ble_eq_true rfl) dL_law_18 ?_
  refine v_ldc X2 (pc := 21) (v := (-100004)) q_562 dL_law_21 ?_
  refine v_icmpne X2 (pc := 23) (tgt := 40) dL_law_23 (by decide) (fun cc => False.elim (cc rfl)) (fun _ => ?_)
  refine v_aload_n X2 (pc := 26) dL_law_26 rfl 0 rfl ?_
  refine v_bipush X2 (pc := 27) (v := nI 8) dL_law_27 (by decide) ?_
  refine r_count X2 hR st_0 (k := 8) (by decide) (Nat.le_of_ble_eq_true rfl) dL_law_29 ?_
  refine v_top (b := nI 1) (ct8_0) ?_
  refine v_iconst X2 (pc := 32) (v := nI 1) dL_law_32 (by decide) ?_
  refine v_icmpne X2 (pc := 33) (tgt := 40) dL_law_33 (by decide) (fun cc => False.elim (cc rfl)) (fun _ => ?_)
  refine v_iconst X2 (pc := 36) (v := nI 1) dL_law_36 (by decide) ?_
  refine v_goto X2 (pc := 37) (tgt := 41) dL_law_37 (by decide) ?_
  refine v_istore_n X2 (pc := 41) (L2 := [(2, .int (nI 1)), (1, .ref (bb 11 0)), (0, .ref b)]) dL_law_41 rfl (by decide) rfl ?_
  refine v_iconst X2 (pc := 42) (v := nI 0) dL_law_42 (by decide) ?_
  refine v_istore_n X2 (pc := 43) (L2 := [(3, .int (nI 0)), (2, .int (nI 1)), (1, .ref (bb 11 0)), (0, .ref b)]) dL_law_43 rfl (by decide) rfl ?_
  refine v_sub (L2 := [(0, .ref b), (1, .ref (bb 11 0)), (2, .int (nI 1)), (3, .int (nI 0))]) [3, 2, 1, 0] rfl ?_
  exact law_loop X2 (Drawn.sameBut.refl s.drawn lw_cs) hX hbl hr hlocks hL bb (fun _ _ => 0) 44 0 0 st0 st0 st0 (fun _ => 0) (fun _ => st0) (fun _ => 0) G00 0 (fun _ => G00) none (by omega) st_0
