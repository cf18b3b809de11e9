/-! fullness, in both: a quotient that may draw -/
def QD (g : Gl) (A : Nat → Prop) (v : UInt64) (w' : va_W) : Array Value → State → Outcome → State → Prop := va_Qd (S := Unit) (fun r _ => alike64 r v = true) (fun _ t => va_P g.1 vwCl w' t.heap ∧ va_D A w') A
def FnD (x : Ctx) (v : UInt64) (w' : va_W) : Prop :=
  x.meth.sig.returnType = some .double ∧ x.meth.locks = false ∧ ∃ (s0 : State) (d0 : Drawn), x.s = s0.setDrawn d0 ∧ s0.drawn.sameBut d0 lw_cs ∧ x.Q = MQD lw_cs x.below (QD x.g x.A v w') x.args s0 x.cells x.slots x.A
def OkD (l : Launch) (g : Gl) (y : MethodName) (cc : ByteArray) (maxL : Nat) (fr lo : Nat) (av : List Value) (w : va_W) (v : UInt64) (w' : va_W) : Prop :=
  ∀ sz : Nat, MetD lw_cs l y (Cond.code y cc maxL (some .double) :: lw_all) ({ frames := fr, cells := 0, slots := 0, locals := lo } : Room) (va_Pc av (Pq g w sz)) (QD g (va_A w sz) v w') 0 0 (va_A w sz)
theorem nst_drawn {s : State} (d : Drawn) (h : ∀ w ∈ lw_nst, va_Nw w s) : ∀ w ∈ lw_nst, va_Nw w (s.setDrawn d) := by
  intro w hw
  have hk : lw_isNst w = true := List.all_eq_true.mp lw_nst_all w hw
  have ho : w.onTables = true := by
    cases w <;> first | rfl | (simp [lw_isNst] at hk)
  exact va_Nw.same ho (u := s) (U := s.setDrawn d) rfl (h w hw)
theorem OkD.of {l : Launch} {g : Gl} {y : MethodName} {cc : ByteArray} {maxL : Nat} {fr lo : Nat} {av : List Value} {w : va_W} {v : UInt64} {w' : va_W} (own : String) (hy : plainName y.cls = true) (ho : y.cls = own) (hn : (lg_sl av).length ≤ maxL)
    (body : ∀ x : Ctx, x.l = l → x.g = g → Cx x own cc maxL fr lo → FnD x v w' → V x w (lv_args 0 av) [] 0) : OkD l g y cc maxL fr lo av w v w' := by
  intro sz
  refine MetD.ofW (cc := cc) (maxL := maxL) (ret := some .double) hy rfl ?_
  intro p e s m args below meth c s₁ B hml hv hd0
  obtain ⟨rfl, hsz, hP, hK, hD0, hN⟩ := hv
  have hts := atoms_spec (ws := Cond.code y cc maxL (some .double) :: lw_all) B.pre
  have hown : s.vm.findClass own = some m.cls := ho ▸ findClass_of_methodNamed B.named
  subst hsz
  have hD := hD0.self (sz := s.heap.size)
  rw [lg_entry_eq]
  have hl := lv_entry av (n := maxL) hn
  exact body ((p, l, e, (headSpec (Cond.code y cc maxL (some .double) :: lw_all) ({ frames := fr, cells := 0, slots := 0, locals := lo } : Room)).room), (s.setDrawn s.drawn, m, av.toArray, below), (meth, c, 0, 0), (g, va_A w s.heap.size, maxL, _)) rfl rfl
    ⟨B.exec, B.bytes, hml, hown, dr_words (fun w h => hts w (List.mem_cons_of_mem _ h)) _, nst_drawn _ hN, hK, fun q h => Or.inr h, Nat.le_refl _, Nat.le_refl _, Nat.le_refl _, Nat.le_refl _, rfl⟩
    ⟨B.returns, B.notSynchronized, s, s.drawn, rfl, hd0, rfl⟩ s.heap [] _ hP hD va_S.rf hl
section ROWD
variable {x : Ctx} {own : String} {cc : ByteArray} {nl fr lo : Nat} {w : va_W} {L : List (Nat × Value)} {st : List Value} {pc : Nat}
theorem v_i2d (X : Cx x own cc nl fr lo) {v : Int32} (d : decode cc pc = .ok (.i2d, 1)) (kk : V x w L (.double (FP.i2d v) :: st) (pc + 1)) : V x w L (.int v :: st) pc := by
  intro H locs ls hP hD hS hl
  exact lv_i2d X.1 X.2.1 d (kk H locs ls hP hD hS hl)
theorem v_ddret (X : Cx x own cc nl fr lo) {a b : UInt64} (F : FnD x (FP.ddiv a b) w) (d : decode cc pc = .ok (.ddiv, 1)) (d2 : decode cc (pc + 1) = .ok (.dreturn, 1)) : V x w L [.double b, .double a] pc := by
  intro H locs ls hP hD hS hl
  obtain ⟨f1, f2, s0, d0, hs, hd, hQ⟩ := F
  rw [hs] at hS
  rw [hQ, hs]
  refine lv_ddiv_any hd lw_bits X.1 X.2.1 d (fun r d1 hal hd1 => ?_)
  refine W.endD hd1 ?_
  have hS' : va_S x.A (s0.setDrawn d1).heap H locs := hS
  exact W.dret X.1 X.2.1 f1 (fun t ht hW => ⟨⟨r, (), rfl, hal, by rw [ht]; exact hP, hD⟩, hS'.F ht⟩) hS.2.2 d2 f2
theorem v_ddgo (X : Cx x own cc nl fr lo) {a b : UInt64} {off : Int} {tgt : Nat} (F : FnD x (FP.ddiv a b) w) (d : decode cc pc = .ok (.ddiv, 1)) (d1 : decode cc (pc + 1) = .ok (.goto off, 3)) (ht : ((pc + 1 : Nat) : Int) + off = (tgt : Int)) (d2 : decode cc tgt = .ok (.dreturn, 1)) : V x w L [.double b, .double a] pc := by
  intro H locs ls hP hD hS hl
  obtain ⟨f1, f2, s0, d0, hs, hd, hQ⟩ := F
  rw [hs] at hS
  rw [hQ, hs]
  refine lv_ddiv_any hd lw_bits X.1 X.2.1 d (fun r d1' hal hd1 => ?_)
  refine lv_goto X.1 X.2.1 d1 ht ?_
  refine W.endD hd1 ?_
  have hS' : va_S x.A (s0.setDrawn d1').heap H locs := hS
  exact W.dret X.1 X.2.1 f1 (fun t ht hW => ⟨⟨r, (), rfl, hal, by rw [ht]; exact hP, hD⟩, hS'.F ht⟩) hS.2.2 d2 f2
end ROWD
set_option maxHeartbeats 4000000 in
set_option maxRecDepth 100000 in
theorem c_X5_fullness (l : Launch) (g : Gl) (b : Nat → Nat → Nat) (hs : Int32) (n0 : Blk) (n1 : Blk) (n2 : Blk) (ζ : Row) (η : (Nat → Blk)) (δ : Row) (χ : Blk) {qr qp : Int32} (hr : f_X4_roomsOfAllHalls n0 = some qr) (hp : f_X4_peopleOfAllHalls n0 = some qp) (hpos : ¬ qr ≤ 0) : OkD l g yX5_fullness cX5_fullness 2 4 120 [.ref (b 11 0)] (wHS g b hs n0 n1 n2 ζ η δ χ) (FP.ddiv (FP.i2d qp) (FP.i2d qr)) (wHS g b hs n0 n1 n2 ζ η δ χ) := by
  refine OkD.of RX5 (by decide) rfl (Nat.le_of_ble_eq_true rfl) (fun x hl hg X F => ?_)
  subst hg; subst hl
  show V x (wHS x.g b hs n0 n1 n2 ζ η δ χ) [(0, .ref (b 11 0))] [] 0
  refine v_aload_n X (pc := 0) dX5_fullness_0 rfl 0 rfl ?_
  refine v_get X (pc := 1) (v := .ref ((b 0) 0)) uw5 0 rfl rfl 0 (by decide) q_202 rfl rfl dX5_fullness_1 ?_
  refine v_callV X (pc := 4) (st1 := [.int qr]) (w' := (wHS x.g b hs n0 n1 n2 ζ η δ χ)) [] [] (c_X4_roomsOfAllHalls x.l x.g (b 0) n0 hr) rfl rfl cw_X4_roomsOfAllHalls q_658 q_659 q_660 ⟨by decide, by decide⟩ 1 4 rfl rfl rfl (Fr.of [1, 2, 3, 4, 5, 6, 7, 8, 9, 10, 11, 12] rfl rfl rfl rfl rfl) rfl (Nat.le_of_ble_eq_true rfl) dX5_fullness_4 ?_
  refine v_istore_n X (pc := 7) (L2 := [(1, .int qr), (0, .ref (b 11 0))]) dX5_fullness_7 rfl (by decide) rfl ?_
  refine v_iload_n X (pc := 8) dX5_fullness_8 rfl 0 rfl ?_
  refine v_ifle X (pc := 9) (tgt := 26) dX5_fullness_9 (by decide) (fun c => absurd c hpos) (fun _ => ?_)
  refine v_aload_n X (pc := 12) dX5_fullness_12 rfl 1 rfl ?_
  refine v_get X (pc := 13) (v := .ref ((b 0) 0)) uw5 0 rfl rfl 0 (by decide) q_202 rfl rfl dX5_fullness_13 ?_
  refine v_callV X (pc := 16) (st1 := [.int qp]) (w' := (wHS x.g b hs n0 n1 n2 ζ η δ χ)) [] [] (c_X4_peopleOfAllHalls x.l x.g (b 0) n0 hp) rfl rfl cw_X4_peopleOfAllHalls q_456 q_457 q_458 ⟨by decide, by decide⟩ 1 4 rfl rfl rfl (Fr.of [1, 2, 3, 4, 5, 6, 7, 8, 9, 10, 11, 12] rfl rfl rfl rfl rfl) rfl (Nat.le_of_ble_eq_true rfl) dX5_fullness_16 ?_
  refine v_i2d X (pc := 19) dX5_fullness_19 ?_
  refine v_iload_n X (pc := 20) dX5_fullness_20 rfl 0 rfl ?_
  refine v_i2d X (pc := 21) dX5_fullness_21 ?_
  exact v_ddgo X (pc := 22) (tgt := 27) F dX5_fullness_22 dX5_fullness_23 (by decide) dX5_fullness_27
def f_X6_rooms_L4 (μ : Blk) : Nat → Int32 → Int32 → Option (Int32)
  | 0, _, _ => none
  | n + 1, x1, x2 =>
    (if 6 ≤ x2 then some x1 else (if ib (4 + x2) 2048 = true then f_X6_rooms_L4 μ n (x1 + ((μ 1) (Int32.toNatClampNeg (4 + x2)))) (x2 + 1) else none))
set_option maxHeartbeats 4000000 in
set_option maxRecDepth 100000 in
theorem v_X6_fullness_L4 {x : Ctx} (X : Cx x RX6 cX6_fullness 3 2 60) (a : Nat → Nat) (μ : Blk) {qp : Int32} (hpp : f_X6_people μ 0 = some qp) : ∀ (n : Nat) (x1 : Int32) (x2 : Int32) {qr : Int32}, f_X6_rooms_L4 μ n x1 x2 = some qr → FnD x (FP.ddiv (FP.i2d qp) (FP.i2d qr)) (wM x.g a μ) → V x (wM x.g a μ) [(0, .ref (a 0)), (1, .int x1), (2, .int x2)] [] 4 := by
  intro n
  induction n with
  | zero =>
    intro x1 x2 qr h F
    rw [f_X6_rooms_L4] at h
    cases h
  | succ n ih =>
    intro x1 x2 qr h F
    rw [f_X6_rooms_L4] at h
    refine v_iload_n X (pc := 4) dX6_fullness_4 rfl 2 rfl ?_
    refine v_bipush X (pc := 5) (v := 6) dX6_fullness_5 (by decide) ?_
    refine v_icmpge X (pc := 7) (tgt := 27) dX6_fullness_7 (by decide) (fun c => ?_) (fun c => ?_)
    · replace h := hp c h
      replace h := oi h
      subst h
      refine v_aload_n X (pc := 27) dX6_fullness_27 rfl 0 rfl ?_
      refine v_iconst X (pc := 28) (v := 0) dX6_fullness_28 (by decide) ?_
      refine v_callV X (pc := 29) (st1 := [.int qp]) (w' := (wM x.g a μ)) [.int 0] [] (c_X6_people x.l x.g a μ 0 hpp) rfl rfl cw_X6_people q_831 q_833 q_38 ⟨by decide, by decide⟩ 0 6 rfl rfl rfl (Fr.all rfl) rfl (Nat.le_of_ble_eq_true rfl) dX6_fullness_29 ?_
      refine v_i2d X (pc := 32) dX6_fullness_32 ?_
      refine v_iload_n X (pc := 33) dX6_fullness_33 rfl 1 rfl ?_
      refine v_i2d X (pc := 34) dX6_fullness_34 ?_
      exact v_ddret X (pc := 35) F dX6_fullness_35 dX6_fullness_36
    · replace h := hn c h
      refine v_iload_n X (pc := 10) dX6_fullness_10 rfl 1 rfl ?_
      refine v_aload_n X (pc := 11) dX6_fullness_11 rfl 0 rfl ?_
      refine v_get X (pc := 12) (v := .ref (a 1)) uw6 0 rfl rfl 0 (by decide) q_668 rfl rfl dX6_fullness_12 ?_
      refine v_iconst X (pc := 15) (v := 4) dX6_fullness_15 (by decide) ?_
      refine v_iload_n X (pc := 16) dX6_fullness_16 rfl 2 rfl ?_
      refine v_iadd X (pc := 17) dX6_fullness_17 ?_
      obtain ⟨g18, h⟩ := og h
      refine v_iald X (pc := 18) (v := ((μ 1) (Int32.toNatClampNeg (4 + x2)))) 1 rfl (ib_in g18) rfl dX6_fullness_18 ?_
      refine v_iadd X (pc := 19) dX6_fullness_19 ?_
      refine v_istore_n X (pc := 20) (L2 := [(1, .int (x1 + ((μ 1) (Int32.toNatClampNeg (4 + x2))))), (0, .ref (a 0)), (2, .int x2)]) dX6_fullness_20 rfl (by decide) rfl ?_
      refine v_iinc X (pc := 21) (v := (x2 + 1)) (L2 := [(2, .int (x2 + 1)), (1, .int (x1 + ((μ 1) (Int32.toNatClampNeg (4 + x2))))), (0, .ref (a 0))]) dX6_fullness_21 2 rfl (by first | rfl | decide) (by decide) rfl ?_
      refine v_goto X (pc := 24) (tgt := 4) dX6_fullness_24 (by decide) ?_
      refine v_sub (L2 := [(0, .ref (a 0)), (1, .int (x1 + ((μ 1) (Int32.toNatClampNeg (4 + x2))))), (2, .int (x2 + 1))]) [2, 1, 0] rfl ?_
      exact ih (x1 + ((μ 1) (Int32.toNatClampNeg (4 + x2)))) (x2 + 1) h F
set_option maxHeartbeats 4000000 in
set_option maxRecDepth 100000 in
theorem c_X6_fullness (l : Launch) (g : Gl) (a : Nat → Nat) (μ : Blk) {qp qr : Int32} (hpp : f_X6_people μ 0 = some qp) (hrr : f_X6_rooms_L4 μ FU 0 1 = some qr) : OkD l g yX6_fullness cX6_fullness 3 2 60 [.ref (a 0)] (wM g a μ) (FP.ddiv (FP.i2d qp) (FP.i2d qr)) (wM g a μ) := by
  refine OkD.of RX6 (by decide) rfl (Nat.le_of_ble_eq_true rfl) (fun x hl hg X F => ?_)
  subst hg; subst hl
  show V x (wM x.g a μ) [(0, .ref (a 0))] [] 0
  refine v_iconst X (pc := 0) (v := 0) dX6_fullness_0 (by decide) ?_
  refine v_istore_n X (pc := 1) (L2 := [(1, .int 0), (0, .ref (a 0))]) dX6_fullness_1 rfl (by decide) rfl ?_
  refine v_iconst X (pc := 2) (v := 1) dX6_fullness_2 (by decide) ?_
  refine v_istore_n X (pc := 3) (L2 := [(2, .int 1), (1, .int 0), (0, .ref (a 0))]) dX6_fullness_3 rfl (by decide) rfl ?_
  refine v_sub (L2 := [(0, .ref (a 0)), (1, .int 0), (2, .int 1)]) [2, 1, 0] rfl ?_
  exact v_X6_fullness_L4 X a μ hpp FU 0 1 hrr F
/-- both quotients are of the same numbers -/
theorem mo_rooms {μ : Blk} {G : NB} (M : Mod (μ 1) 0 G) : f_X6_rooms_L4 μ FU 0 1 = some (nI (rms G)) := by
  obtain ⟨n, hn⟩ := FU_s 6 (by decide)
  have st : ∀ (m h acc : Nat), 1 ≤ h → h < 6 → f_X6_rooms_L4 μ (m + 1) (nI acc) (nI h) = f_X6_rooms_L4 μ m (nI (acc + G 1 h)) (nI (h + 1)) := by
    intro m h acc h1 h6
    have mh := (M.2.1 h h1 h6).1
    rw [Nat.zero_add] at mh
    rw [f_X6_rooms_L4, e6, if_neg (nI_ge h6 (by decide)), e4, nI_add, ib_nI (by omega) (by decide), if_pos rfl, nI_clamp (by omega), mh, nI_add, nI_1]
  rw [hn, e0, e1, show n + 6 = (n + 5) + 1 from rfl, st _ _ _ (by decide) (by decide), show n + 5 = (n + 4) + 1 from rfl, st _ _ _ (by decide) (by decide), show n + 4 = (n + 3) + 1 from rfl, st _ _ _ (by decide) (by decide), show n + 3 = (n + 2) + 1 from rfl, st _ _ _ (by decide) (by decide), show n + 2 = (n + 1) + 1 from rfl, st _ _ _ (by decide) (by decide), f_X6_rooms_L4, if_pos (by decide)]
  show some (nI (0 + G 1 1 + G 1 2 + G 1 3 + G 1 4 + G 1 5)) = some (nI (rms G))
  congr 2
  unfold rms
  omega
theorem sim_fullness {N : Nat} {G : NB} {z : Nat} {H : Nat → NB} {hs : Int32} {n0 n1 : Blk} {ζ : Row} {η : Nat → Blk} {χ μ : Blk} (S : St N G z H hs n0 n1 ζ η χ μ) : ∃ qp qr, f_X4_roomsOfAllHalls n0 = some qr ∧ f_X4_peopleOfAllHalls n0 = some qp ∧ ¬ qr ≤ 0 ∧ f_X6_people μ 0 = some qp ∧ f_X6_rooms_L4 μ FU 0 1 = some qr := by
  have w1 := S.wf.2.2.1 1 (by decide) (by decide)
  have w2 := S.wf.2.2.1 2 (by decide) (by decide)
  have w3 := S.wf.2.2.1 3 (by decide) (by decide)
  have w4 := S.wf.2.2.1 4 (by decide) (by decide)
  have w5 := S.wf.2.2.1 5 (by decide) (by decide)
  have mp := mo_ppl S.mo (by decide)
  rw [← e0] at mp
  refine ⟨nI (ppl G), nI (rms G), cl_rms S.cl, cl_ppl S.cl, ?_, mp, mo_rooms S.mo⟩
  rw [e0]
  exact nI_ge (by unfold rms; omega) (by unfold rms; omega)
