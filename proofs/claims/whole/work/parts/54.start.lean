theorem arr_of {s : State} {av : Array Value} {ty : FieldType} (h : (Cond.arrayClass ty).before av s = true) : ∃ cA : ClassId, ArrOfT s cA ty ∧ s.vm.findClass ("[" ++ ty.toString) = some cA := by
  obtain ⟨cA, k, comp, h1, h2, h3⟩ := Cond.arrayClass_spec h
  exact ⟨cA, fun n z => ⟨(fun k h => by cases h), k, h2, comp, h3⟩, h1⟩
set_option maxHeartbeats 4000000 in
set_option maxRecDepth 100000 in
theorem whole_start {p : Program} {e : Env} {s : State} {m : MethodId} {below : List Frame} {meth : Method} {c : Code} (l : Launch) (hflags : l.flags = flags0) {b L : Nat} {xs : Nat → Int32} (hL : L ≤ 2048) (C0 : lw_At p s m meth c b L xs) : W p l e room_1 s m #[Value.ref b] below meth c s.heap [] 0 0 (lw_Z below #[Value.ref b] s) (entryFrame m ([Value.ref b] : List Value).toArray 8) := by
  obtain ⟨hx, hb, hr, hml, hown, hts0, hX, hbl, hlocks, hgv⟩ := id C0
  have hts : ∀ w ∈ lw_all, w.before #[Value.ref b] s = true := fun w h => hts0 w (lw_all_tbl h)
  obtain ⟨c0, s0, k0⟩ := u_known (C := RX0) (T := TX0) (N := 1) (n := 1) hts uw0 (hts _ q_164)
  obtain ⟨c1, s1, k1⟩ := u_known (C := RX1) (T := TX1) (N := 4) (n := 4) hts uw1 (hts _ q_74)
  obtain ⟨c2, s2, k2⟩ := u_known (C := RX2) (T := TX2) (N := 3) (n := 3) hts uw2 (hts _ q_144)
  obtain ⟨c3, s3, k3⟩ := u_known (C := RX3) (T := TX3) (N := 6) (n := 6) hts uw3 (hts _ q_174)
  obtain ⟨c4, s4, k4⟩ := u_known (C := RX4) (T := TX4) (N := 11) (n := 11) hts uw4 (hts _ q_68)
  obtain ⟨c5, s5, k5⟩ := u_known (C := RX5) (T := TX5) (N := 7) (n := 7) hts uw5 (hts _ q_60)
  obtain ⟨c6, s6, k6⟩ := u_known (C := RX6) (T := TX6) (N := 11) (n := 11) hts uw6 (hts _ q_663)
  obtain ⟨dC, dI, hKc⟩ : ∃ (dC : Nat → ClassId) (dI : Nat → Nat → Nat), ∀ (k : Nat) (q : vw_C), vwCl[k]? = some q → u_Kn s q.1 q.2.1 q.2.2 (dC k) (dI k) := by
    refine ⟨fun k => match k with | 0 => c0 | 1 => c1 | 2 => c2 | 3 => c3 | 4 => c4 | 5 => c5 | _ => c6, fun k => match k with | 0 => s0 | 1 => s1 | 2 => s2 | 3 => s3 | 4 => s4 | 5 => s5 | _ => s6, ?_⟩
    intro k q hq
    match k, hq with
    | 0, hq => cases hq; exact k0
    | 1, hq => cases hq; exact k1
    | 2, hq => cases hq; exact k2
    | 3, hq => cases hq; exact k3
    | 4, hq => cases hq; exact k4
    | 5, hq => cases hq; exact k5
    | 6, hq => cases hq; exact k6
    | k + 7, hq => simp [vwCl] at hq
  obtain ⟨aI, hI1, hI2⟩ := arr_of (hts _ q_95)
  obtain ⟨aC, hC1, hC2⟩ := arr_of (hts _ q_702)
  have hao : va_AO RX4 s := va_AO.of (hts0 _ ao_tbl)
  obtain ⟨comp, aS, kS, o1, o2, o3, o4, o5⟩ := Cond.arrayOver_spec (hts0 _ ao_tbl)
  have hK : va_K (dC, dI) vwCl (TY ((dC, dI), aI, aC, aS)) s := by
    refine ⟨hKc, fun k q hq => ?_⟩
    match k, hq with
    | 0, hq => cases hq; exact ⟨hI1, hI2⟩
    | 1, hq => cases hq; exact ⟨hC1, hC2⟩
    | 2, hq => cases hq; exact ⟨fun n z => ⟨(fun k h => by cases h), kS, o3, comp, o4⟩, kS, comp, o3, o4, o1, o5⟩
    | k + 3, hq => simp [TY] at hq
  have hN : ∀ w ∈ lw_nst, va_Nw w s := fun w hw => by
    have hk : lw_isNst w = true := List.all_eq_true.mp lw_nst_all w hw
    have ho : w.onTables = true := by
      cases w <;> first | rfl | (simp [lw_isNst] at hk)
    exact va_Nw.of ho (hts0 w (lw_nst_tbl w hw))
  have hP : va_P (dC, dI) vwCl [] s.heap := fun k q h => by simp at h
  have hD : va_D (fun q : Nat => s.heap.size ≤ q) [] := ⟨fun i j p q h => by simp at h, fun k q h => by simp at h⟩
  refine W.base ?_
  have hl := lv_entry ([.ref b]) (n := 8) (Nat.le_of_ble_eq_true rfl)
  rw [lg_entry_eq]
  let x : Ctx := ((p, l, e, room_1), (s.setDrawn s.drawn, m, #[Value.ref b], below), (meth, c, 0, 0), (((dC, dI), aI, aC, aS), (fun q => s.heap.size ≤ q), 8, lw_Z below #[Value.ref b] s))
  have X : Cx x RL cL_law 8 10 350 := ⟨hx, hb, hml, hown, dr_words hts _, nst_drawn _ hN, hK, fun q h => h, Nat.le_of_ble_eq_true rfl, Nat.le_of_ble_eq_true rfl, Nat.zero_le _, Nat.zero_le _, rfl⟩
  have hao' : va_AO RX4 x.s := va_AO.moved (u := s) (U := s.setDrawn s.drawn) (Vm.Alike.refl s.vm) hao
  suffices K : V x [] [(0, .ref b)] [] 0 from K s.heap [] _ hP hD va_S.rf hl
  refine v_new X (pc := 0) (ci := 5) (N := 7) (fs := [.null, .null, .null, .null, .null, .null, .int 0]) (k := 1) (n := 7) uw5 tyX5 tyX5_ok q_59 q_60 q_51 rfl (fun j hj => by match j, hj with | 0, _ => rfl | 1, _ => rfl | 2, _ => rfl | 3, _ => rfl | 4, _ => rfl | 5, _ => rfl | 6, _ => rfl | j + 7, hj => exact absurd hj (by omega)) rfl rfl (Nat.le_of_ble_eq_true rfl) (Nat.le_of_ble_eq_true rfl) dL_law_0 (fun y0 => ?_)
  have X1 : Cx (x.al 1 7) RL cL_law 8 10 350 := X.al (Nat.le_of_ble_eq_true rfl) (Nat.le_of_ble_eq_true rfl)
  refine v_dup X1 (pc := 3) dL_law_3 rfl ?_
  refine v_callI X1 hao' (pc := 4) (k := 103) (n := 2224) (wr := []) (c_X5_init l ((dC, dI), aI, aC, aS) y0) cw_X5_init q_61 q_62 rfl ⟨by decide, by decide⟩ rfl rfl (Nat.le_of_ble_eq_true rfl) (Nat.le_of_ble_eq_true rfl) (Nat.le_of_ble_eq_true rfl) dL_law_4 (fun w1 hw1 => ?_)
  obtain ⟨bb, eb, rfl⟩ := hw1
  rw [← eb]
  have X2 : Cx (x.al 103 2224) RL cL_law 8 10 350 := X.al (Nat.le_of_ble_eq_true rfl) (Nat.le_of_ble_eq_true rfl)
  show V (x.al 103 2224) (wHS ((dC, dI), aI, aC, aS) bb 0 st0 st0 st0 (fun _ => 0) (fun _ => st0) (fun _ => 0) (fun _ _ => 0)) _ _ _
  refine v_astore_n X2 (pc := 7) (L2 := [(1, .ref (bb 11 0)), (0, .ref b)]) dL_law_7 rfl (by decide) rfl ?_
  refine v_new X2 (pc := 8) (ci := 6) (N := 11) (fs := [.null, .int 0, .int 0, .null, .int 0, .null, .int 0, .int 0, .int 0, .int 0, .int 0]) (k := 104) (n := 2235) uw6 tyX6 tyX6_ok q_662 q_663 q_57 rfl (fun j hj => by match j, hj with | 0, _ => rfl | 1, _ => rfl | 2, _ => rfl | 3, _ => rfl | 4, _ => rfl | 5, _ => rfl | 6, _ => rfl | 7, _ => rfl | 8, _ => rfl | 9, _ => rfl | 10, _ => rfl | j + 11, hj => exact absurd hj (by omega)) rfl rfl (Nat.le_of_ble_eq_true rfl) (Nat.le_of_ble_eq_true rfl) dL_law_8 (fun y1 => ?_)
  have X3 : Cx (x.al 104 2235) RL cL_law 8 10 350 := X.al (Nat.le_of_ble_eq_true rfl) (Nat.le_of_ble_eq_true rfl)
  refine v_dup X3 (pc := 11) dL_law_11 rfl ?_
  refine v_callI X3 hao' (pc := 12) (k := 107) (n := 4349) (wr := wHS ((dC, dI), aI, aC, aS) bb 0 st0 st0 st0 (fun _ => 0) (fun _ => st0) (fun _ => 0) (fun _ _ => 0)) (c_X6_init l ((dC, dI), aI, aC, aS) y1) cw_X6_init q_664 q_665 rfl ⟨by decide, by decide⟩ rfl rfl (Nat.le_of_ble_eq_true rfl) (Nat.le_of_ble_eq_true rfl) (Nat.le_of_ble_eq_true rfl) dL_law_12 (fun w2 hw2 => ?_)
  obtain ⟨aa, ea, rfl⟩ := hw2
  rw [← ea]
  have X4 : Cx (LC p l e s m b below meth c ((dC, dI), aI, aC, aS) s.drawn) RL cL_law 8 10 350 := X.al (Nat.le_of_ble_eq_true rfl) (Nat.le_of_ble_eq_true rfl)
  show V (LC p l e s m b below meth c ((dC, dI), aI, aC, aS) s.drawn) _ _ _ _
  refine v_astore_n X4 (pc := 15) (L2 := [(2, .ref (aa 0)), (1, .ref (bb 11 0)), (0, .ref b)]) dL_law_15 rfl (by decide) rfl ?_
  refine v_iconst X4 (pc := 16) (v := 0) dL_law_16 (by decide) ?_
  refine v_istore_n X4 (pc := 17) (L2 := [(3, .int 0), (2, .ref (aa 0)), (1, .ref (bb 11 0)), (0, .ref b)]) dL_law_17 rfl (by decide) rfl ?_
  refine v_sub (L2 := L0 b (bb 11 0) (aa 0) 0) [3, 2, 1, 0] rfl ?_
  exact law_loop X4 hX hbl hr hlocks hL bb aa (L + 1) s.drawn 0 0 st0 st0 st0 (fun _ => 0) (fun _ => st0) (fun _ => 0) (fun _ _ => 0) mu0 (Drawn.sameBut.refl s.drawn lw_cs) (by omega) (Nat.zero_le _) inv_0
