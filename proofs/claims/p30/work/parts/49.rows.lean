/-! the law's helpers: rows -/
def QfP (g : Gl) (A : Nat → Prop) (r : Option Value) (post : va_W → Prop) : Array Value → State → Outcome → State → Prop := fun _ st oc t => (oc = .returned r ∧ ∃ w' : va_W, post w' ∧ va_P g.1 vwCl w' t.heap ∧ va_D A w') ∧ va_F A st t
/-- the end, with the world behind in a set -/
def FnP (x : Ctx) (ret : Option FieldType) (r : Option Value) (post : va_W → Prop) : Prop :=
  x.meth.sig.returnType = ret ∧ x.meth.locks = false ∧ x.Q = MQ x.below (QfP x.g x.A r post) x.args x.s x.cells x.slots x.A
def OkP (l : Launch) (g : Gl) (y : MethodName) (cc : ByteArray) (maxL : Nat) (ret : Option FieldType) (fr lo : Nat) (av : List Value) (w : va_W) (r : Option Value) (post : va_W → Prop) : Prop :=
  ∀ sz : Nat, Met l y (Cond.code y cc maxL ret :: lw_all) ({ frames := fr, cells := 0, slots := 0, locals := lo } : Room) (va_Pc av (Pq g w sz)) (QfP g (va_A w sz) r post) 0 0 (va_A w sz)
theorem OkP.of {l : Launch} {g : Gl} {y : MethodName} {cc : ByteArray} {maxL : Nat} {ret : Option FieldType} {fr lo : Nat} {av : List Value} {w : va_W} {r : Option Value} {post : va_W → Prop} (own : String) (hy : plainName y.cls = true) (ho : y.cls = own) (hn : (lg_sl av).length ≤ maxL)
    (body : ∀ x : Ctx, x.l = l → x.g = g → Cx x own cc maxL fr lo → FnP x ret r post → V x w (lv_args 0 av) [] 0) : OkP l g y cc maxL ret fr lo av w r post := by
  intro sz
  refine Met.ofW (cc := cc) (maxL := maxL) (ret := ret) hy rfl ?_
  intro p e s m args below meth c s₁ B hml hv
  obtain ⟨rfl, hsz, hP, hK, hD0, hN⟩ := hv
  have hts := atoms_spec (ws := Cond.code y cc maxL ret :: lw_all) B.pre
  have hown : s.vm.findClass own = some m.cls := ho ▸ findClass_of_methodNamed B.named
  subst hsz
  have hD := hD0.self (sz := s.heap.size)
  rw [lg_entry_eq]
  have hl := lv_entry av (n := maxL) hn
  exact body ((p, l, e, (headSpec (Cond.code y cc maxL ret :: lw_all) ({ frames := fr, cells := 0, slots := 0, locals := lo } : Room)).room), (s, m, av.toArray, below), (meth, c, 0, 0), (g, va_A w s.heap.size, maxL, _)) rfl rfl
    ⟨B.exec, B.bytes, hml, hown, fun w h => hts w (List.mem_cons_of_mem _ h), hN, hK, fun q h => Or.inr h, Nat.le_refl _, Nat.le_refl _, Nat.le_refl _, Nat.le_refl _, rfl⟩
    ⟨B.returns, B.notSynchronized, rfl⟩ s.heap [] _ hP hD va_S.rf hl
section ROWP
variable {x : Ctx} {own : String} {cc : ByteArray} {nl fr lo : Nat} {w w' : va_W} {L : List (Nat × Value)} {st : List Value} {pc : Nat}
theorem v_runP (X : Cx x own cc nl fr lo) {post : va_W → Prop} {r : Option Value} {rest st0 : List Value} {aa : Array Value} (hp : ∀ w', post w' → Fr w w w' w')
    (hr : ∀ (H : Heap) (locs : List Loc) (ls : Array Slot), va_P x.g.1 vwCl w H → va_D (fun _ => True) w → lv_has ls x.nL L → va_Run x.p x.l x.e x.R x.s x.m x.args x.below x.meth x.c H locs x.cells x.slots 0 0 (F0 x.m pc ls st0) rest (QfP x.g (va_A w H.size) r post aa) (va_A w H.size))
    (kk : ∀ w', post w' → V x w' L (r.toList ++ rest) (pc + 3)) : V x w L st0 pc := by
  intro H locs ls hP hD hS hl T hT X0
  have F0 : Fr w w w w := Fr.all rfl
  have hFc := F0.free hD hS X.2.2.2.2.2.2.2.1
  obtain ⟨v, st₀, t, T', Lc, h0, X', hL, e1, e2, ⟨⟨hv, w1, hpo, hP1, hD1⟩, hz, hk⟩, stp⟩ := hr H locs ls hP (hD.weaken (fun _ _ _ _ => trivial)) hl T hT X0
  have hvr : v = r := Outcome.returned.inj hv
  subst hvr
  rw [h0] at hz hk
  have F := hp w1 hpo
  have hS' : va_S x.A x.s.heap T'.heap (locs ++ Lc) := ⟨Nat.le_trans hS.1 (by rw [e1]; exact hz), fun q h1 h2 => by rw [e1, hk q (Nat.lt_of_lt_of_le h1 hS.1) (fun z => h2 (hFc q z))]; exact hS.2.1 q h1 h2, fun q hq => by
      rcases List.mem_append.mp hq with h | h
      · exact hS.2.2 q h
      · exact hFc _ (hL q h)⟩
  obtain ⟨t2, a1, b1⟩ := kk w1 hpo T'.heap (locs ++ Lc) ls (F.P' hP hD (fun q h1 h2 => by rw [e1]; exact hk q h1 h2) (by rw [e1]; exact hP1)) (F.D' hD) hS' hl T' rfl X'
  exact ⟨t2, stp t2 a1, b1⟩
theorem v_callSP (X : Cx x own cc nl fr lo) {y : MethodName} {cc' : ByteArray} {maxL' : Nat} {ret' : Option FieldType} {n index fr' lo' : Nat} {post : va_W → Prop} {r : Option Value}
    {st0 : List Value} (As rest : List Value) (hM : OkP x.l x.g y cc' maxL' ret' fr' lo' As w r post) (hp : ∀ w', post w' → Fr w w w' w') (h0 : st0 = As.reverse ++ rest) (c : CwB y cc' maxL' ret' n) (hl : Cond.methodLink own index y ∈ lw_all) (hs : Cond.static y ∈ lw_all)
    (hR : fr' + 1 ≤ fr ∧ 8 + (maxL' + 11) + lo' ≤ lo) (hn : As.length = n) (hst : (rest.map fun v => v.category).sum ≤ 8) (d : decode cc pc = .ok (.invokestatic index, 3))
    (kk : ∀ w', post w' → V x w' L (r.toList ++ rest) (pc + 3)) : V x w L st0 pc := by
  subst h0
  refine v_runP X (aa := As.toArray) hp (fun H locs ls hPc hDc hlv => ?_) kk
  exact va_runS (As := As) (rest := rest) ⟨X.1, X.2.1, rfl, X.2.2.2.1, X.2.2.2.2.1⟩ (hM H.size) ⟨c.B X hl hR.1 hR.2, X.2.2.2.2.1 _ hs⟩
    ⟨Pq.blind, v_pre X hPc hDc⟩ rfl hn (hlv.1.trans X.2.2.1.symm) rfl (lv_room hst) d ⟨X.2.2.2.2.2.2.2.2.2.2.1, X.2.2.2.2.2.2.2.2.2.2.2.1⟩
theorem v_zretP (X : Cx x own cc nl fr lo) {v : Int32} {ty : FieldType} {post : va_W → Prop} (F : FnP x (some ty) (some (.int v)) post) (hp : post w) (hn : narrow ty (.int v) = .int v) (d : decode cc pc = .ok (.ireturn, 1)) : V x w L [.int v] pc := by
  intro H locs ls hP hD hS hl
  obtain ⟨f1, f2, f3⟩ := F
  rw [f3]
  exact W.zret (ty := ty) X.1 X.2.1 f1 hn (fun t ht hW => ⟨⟨rfl, w, hp, by rw [ht]; exact hP, hD⟩, hS.F ht⟩) hS.2.2 d f2
theorem v_dret (X : Cx x own cc nl fr lo) {v : UInt64} (F : Fn x (some .double) (some (.double v)) w) (d : decode cc pc = .ok (.dreturn, 1)) : V x w L [.double v] pc := by
  intro H locs ls hP hD hS hl
  obtain ⟨f1, f2, f3⟩ := F
  rw [f3]
  exact W.dret X.1 X.2.1 f1 (fun t ht hW => ⟨⟨rfl, by rw [ht]; exact hP, hD⟩, hS.F ht⟩) hS.2.2 d f2
theorem v_i2d (X : Cx x own cc nl fr lo) {v : Int32} (d : decode cc pc = .ok (.i2d, 1)) (kk : V x w L (.double (FP.i2d v) :: st) (pc + 1)) : V x w L (.int v :: st) pc := fun H locs ls hP hD hS hl => lv_i2d X.1 X.2.1 d (kk H locs ls hP hD hS hl)
theorem v_ddiv (X : Cx x own cc nl fr lo) {a b : UInt64} (hne : vf_n64 (FP.ddiv a b)) (d : decode cc pc = .ok (.ddiv, 1)) (kk : V x w L (.double (FP.ddiv a b) :: st) (pc + 1)) : V x w L (.double b :: .double a :: st) pc := fun H locs ls hP hD hS hl => lv_ddiv X.1 X.2.1 d hne (kk H locs ls hP hD hS hl)
theorem v_dconst0 (X : Cx x own cc nl fr lo) (d : decode cc pc = .ok (.dconst 0, 1)) (kk : V x w L (.double FP.dconst0 :: st) (pc + 1)) : V x w L st pc := fun H locs ls hP hD hS hl => lv_dconst0 X.1 X.2.1 d (kk H locs ls hP hD hS hl)
theorem v_dconst1 (X : Cx x own cc nl fr lo) (d : decode cc pc = .ok (.dconst 1, 1)) (kk : V x w L (.double FP.dconst1 :: st) (pc + 1)) : V x w L st pc := fun H locs ls hP hD hS hl => lv_dconst1 X.1 X.2.1 d (kk H locs ls hP hD hS hl)
theorem v_dcmp (X : Cx x own cc nl fr lo) {a b : UInt64} {op : CmpOp} (d : decode cc pc = .ok (.dcmp op, 1)) (kk : V x w L (.int (Op.cmpValue (FP.dcmp a b) op) :: st) (pc + 1)) : V x w L (.double b :: .double a :: st) pc := fun H locs ls hP hD hS hl => lv_dcmp X.1 X.2.1 d (kk H locs ls hP hD hS hl)
/-- the top of the stack under another name -/
theorem v_top {a b : Int32} (h : a = b) (kk : V x w L (.int b :: st) pc) : V x w L (.int a :: st) pc := by rw [h]; exact kk
/-- 1 or 0 by a truth that is known, then both roads meet -/
theorem v_one {a : Int32} (h : a = nI 1) (kk : V x w L (.int (nI 1) :: st) pc) : V x w L (.int a :: st) pc := by rw [h]; exact kk
end ROWP
set_option maxHeartbeats 4000000 in
set_option maxRecDepth 100000 in
theorem c_X5_fullness (l : Launch) (g : Gl) (b : Nat → Nat → Nat) (hs : Int32) (n0 : Blk) (n1 : Blk) (n2 : Blk) (ζ : Row) (η : (Nat → Blk)) (δ : Row) (χ : Blk) {qr qp : Int32} (hr : f_X4_roomsOfAllHalls n0 = some qr) (hp : f_X4_peopleOfAllHalls n0 = some qp) (hpos : ¬ qr ≤ 0) (hnn : vf_n64 (FP.ddiv (FP.i2d qp) (FP.i2d qr))) : Ok l g yX5_fullness cX5_fullness 2 (some .double) 4 120 [.ref (b 11 0)] (wHS g b hs n0 n1 n2 ζ η δ χ) (some (.double (FP.ddiv (FP.i2d qp) (FP.i2d qr)))) (wHS g b hs n0 n1 n2 ζ η δ χ) := by
  refine Ok.of RX5 (by decide) rfl (Nat.le_of_ble_eq_true rfl) (fun x hl hg X F => ?_)
  subst hg; subst hl
  show V x (wHS x.g b hs n0 n1 n2 ζ η δ χ) [(0, .ref (b 11 0))] [] 0
  refine v_aload_n X (pc := 0) dX5_fullness_0 rfl 0 rfl ?_
  refine v_get X (pc := 1) (v := .ref ((b 0) 0)) uw5 0 rfl rfl 0 (by decide) q_161 rfl rfl dX5_fullness_1 ?_
  refine v_callV X (pc := 4) (st1 := [.int qr]) (w' := (wHS x.g b hs n0 n1 n2 ζ η δ χ)) [] [] (c_X4_roomsOfAllHalls x.l x.g (b 0) n0 hr) rfl rfl cw_X4_roomsOfAllHalls q_554 q_555 q_556 ⟨by decide, by decide⟩ 1 4 rfl rfl rfl (Fr.of [1, 2, 3, 4, 5, 6, 7, 8, 9, 10, 11, 12] rfl rfl rfl rfl rfl) rfl (Nat.le_of_ble_eq_true rfl) dX5_fullness_4 ?_
  refine v_istore_n X (pc := 7) (L2 := [(1, .int qr), (0, .ref (b 11 0))]) dX5_fullness_7 rfl (by decide) rfl ?_
  refine v_iload_n X (pc := 8) dX5_fullness_8 rfl 0 rfl ?_
  refine v_ifle X (pc := 9) (tgt := 26) dX5_fullness_9 (by decide) (fun c => absurd c hpos) (fun _ => ?_)
  refine v_aload_n X (pc := 12) dX5_fullness_12 rfl 1 rfl ?_
  refine v_get X (pc := 13) (v := .ref ((b 0) 0)) uw5 0 rfl rfl 0 (by decide) q_161 rfl rfl dX5_fullness_13 ?_
  refine v_callV X (pc := 16) (st1 := [.int qp]) (w' := (wHS x.g b hs n0 n1 n2 ζ η δ χ)) [] [] (c_X4_peopleOfAllHalls x.l x.g (b 0) n0 hp) rfl rfl cw_X4_peopleOfAllHalls q_213 q_214 q_215 ⟨by decide, by decide⟩ 1 4 rfl rfl rfl (Fr.of [1, 2, 3, 4, 5, 6, 7, 8, 9, 10, 11, 12] rfl rfl rfl rfl rfl) rfl (Nat.le_of_ble_eq_true rfl) dX5_fullness_16 ?_
  refine v_i2d X (pc := 19) dX5_fullness_19 ?_
  refine v_iload_n X (pc := 20) dX5_fullness_20 rfl 0 rfl ?_
  refine v_i2d X (pc := 21) dX5_fullness_21 ?_
  refine v_ddiv X (pc := 22) hnn dX5_fullness_22 ?_
  refine v_goto X (pc := 23) (tgt := 27) dX5_fullness_23 (by decide) ?_
  exact v_dret X (pc := 27) F dX5_fullness_27
theorem cw_X5_fullness : CwB yX5_fullness cX5_fullness 2 (some .double) 0 := ⟨q_553, q_14, by decide, by decide, by decide +kernel⟩
theorem r_count {x : Ctx} {cc : ByteArray} {nl fr lo : Nat} {L : List (Nat × Value)} {st : List Value} {pc : Nat} (X : Cx x RL cc nl fr lo) (hR : 8 ≤ fr ∧ 200 ≤ lo) {b : Nat → Nat → Nat} {N : Nat} {G : NB} {z : Nat} {H : Nat → NB} {P : Option NB} {hs : Int32} {n0 n1 : Blk} {ζ : Row} {η : Nat → Blk} (S : St N G z H P hs n0 n1 ζ η) {n2 : Blk} {δ : Row} {χ : Blk} {k : Nat} (hk : k < 11) (hst : (st.map fun v => v.category).sum ≤ 8) (d : decode cc pc = .ok (.invokevirtual 49, 3)) (kk : V x (wHS x.g b hs n0 n1 n2 ζ η δ χ) L (.int (ctI G k) :: st) (pc + 3)) : V x (wHS x.g b hs n0 n1 n2 ζ η δ χ) L (.int (nI k) :: .ref (b 11 0) :: st) pc := by
  have f := rd_count S n2 δ χ hk
  exact v_callV X (st1 := .int (ctI G k) :: st) (w' := wHS x.g b hs n0 n1 n2 ζ η δ χ) [.int (nI k)] st (c_X5_count x.l x.g b hs n0 n1 n2 ζ η δ χ (nI k) f) rfl rfl cw_X5_count q_258 q_259 q_260 ⟨by omega, by omega⟩ 0 5 rfl rfl rfl (Fr.all rfl) rfl hst d kk
theorem r_states {x : Ctx} {cc : ByteArray} {nl fr lo : Nat} {L : List (Nat × Value)} {st : List Value} {pc : Nat} (X : Cx x RL cc nl fr lo) (hR : 8 ≤ fr ∧ 200 ≤ lo) {b : Nat → Nat → Nat} {N : Nat} {G : NB} {z : Nat} {H : Nat → NB} {P : Option NB} {hs : Int32} {n0 n1 : Blk} {ζ : Row} {η : Nat → Blk} (S : St N G z H P hs n0 n1 ζ η) {n2 : Blk} {δ : Row} {χ : Blk}  (hst : (st.map fun v => v.category).sum ≤ 8) (d : decode cc pc = .ok (.invokevirtual 49, 3)) (kk : V x (wHS x.g b hs n0 n1 n2 ζ η δ χ) L (.int (nI z) :: st) (pc + 3)) : V x (wHS x.g b hs n0 n1 n2 ζ η δ χ) L (.int (nI 11) :: .ref (b 11 0) :: st) pc := by
  have f := rd_states S n2 δ χ
  exact v_callV X (st1 := .int (nI z) :: st) (w' := wHS x.g b hs n0 n1 n2 ζ η δ χ) [.int (nI 11)] st (c_X5_count x.l x.g b hs n0 n1 n2 ζ η δ χ (nI 11) f) rfl rfl cw_X5_count q_258 q_259 q_260 ⟨by omega, by omega⟩ 0 5 rfl rfl rfl (Fr.all rfl) rfl hst d kk
theorem r_stileOf {x : Ctx} {cc : ByteArray} {nl fr lo : Nat} {L : List (Nat × Value)} {st : List Value} {pc : Nat} (X : Cx x RL cc nl fr lo) (hR : 8 ≤ fr ∧ 200 ≤ lo) {b : Nat → Nat → Nat} {N : Nat} {G : NB} {z : Nat} {H : Nat → NB} {P : Option NB} {hs : Int32} {n0 n1 : Blk} {ζ : Row} {η : Nat → Blk} (S : St N G z H P hs n0 n1 ζ η) {n2 : Blk} {δ : Row} {χ : Blk} {k w : Nat} (hk : k < 2 ^ 31) (hw : w < 5) (hst : (st.map fun v => v.category).sum ≤ 8) (d : decode cc pc = .ok (.invokevirtual 58, 3)) (kk : V x (wHS x.g b hs n0 n1 n2 ζ η δ χ) L (.int (soI G k w) :: st) (pc + 3)) : V x (wHS x.g b hs n0 n1 n2 ζ η δ χ) L (.int (nI w) :: .int (nI k) :: .ref (b 11 0) :: st) pc := by
  have f := rd_stileOf S n2 δ χ hk hw
  exact v_callV X (st1 := .int (soI G k w) :: st) (w' := wHS x.g b hs n0 n1 n2 ζ η δ χ) [.int (nI k), .int (nI w)] st (c_X5_stileOf x.l x.g b hs n0 n1 n2 ζ η δ χ (nI k) (nI w) f) rfl rfl cw_X5_stileOf q_232 q_233 q_234 ⟨by omega, by omega⟩ 0 5 rfl rfl rfl (Fr.all rfl) rfl hst d kk
theorem r_counter {x : Ctx} {cc : ByteArray} {nl fr lo : Nat} {L : List (Nat × Value)} {st : List Value} {pc : Nat} (X : Cx x RL cc nl fr lo) (hR : 8 ≤ fr ∧ 200 ≤ lo) {b : Nat → Nat → Nat} {N : Nat} {G : NB} {z : Nat} {H : Nat → NB} {P : Option NB} {hs : Int32} {n0 n1 : Blk} {ζ : Row} {η : Nat → Blk} (S : St N G z H P hs n0 n1 ζ η) {n2 : Blk} {δ : Row} {χ : Blk} {k c w : Nat} (hk : k < 2 ^ 31) (hc : c < 4) (hw : w < 3) (hst : (st.map fun v => v.category).sum ≤ 8) (d : decode cc pc = .ok (.invokevirtual 55, 3)) (kk : V x (wHS x.g b hs n0 n1 n2 ζ η δ χ) L (.int (coI G k c w) :: st) (pc + 3)) : V x (wHS x.g b hs n0 n1 n2 ζ η δ χ) L (.int (nI w) :: .int (nI c) :: .int (nI k) :: .ref (b 11 0) :: st) pc := by
  have f := rd_counter S n2 δ χ hk hc hw
  exact v_callV X (st1 := .int (coI G k c w) :: st) (w' := wHS x.g b hs n0 n1 n2 ζ η δ χ) [.int (nI k), .int (nI c), .int (nI w)] st (c_X5_counter x.l x.g b hs n0 n1 n2 ζ η δ χ (nI k) (nI c) (nI w) f) rfl rfl cw_X5_counter q_520 q_521 q_522 ⟨by omega, by omega⟩ 0 5 rfl rfl rfl (Fr.all rfl) rfl hst d kk
theorem r_hall {x : Ctx} {cc : ByteArray} {nl fr lo : Nat} {L : List (Nat × Value)} {st : List Value} {pc : Nat} (X : Cx x RL cc nl fr lo) (hR : 8 ≤ fr ∧ 200 ≤ lo) {b : Nat → Nat → Nat} {N : Nat} {G : NB} {z : Nat} {H : Nat → NB} {P : Option NB} {hs : Int32} {n0 n1 : Blk} {ζ : Row} {η : Nat → Blk} (S : St N G z H P hs n0 n1 ζ η) {n2 : Blk} {δ : Row} {χ : Blk} {h k : Nat} (h1 : 1 ≤ h) (h5 : h ≤ 5) (hk : k < 6) (hst : (st.map fun v => v.category).sum ≤ 8) (d : decode cc pc = .ok (.invokevirtual 52, 3)) (kk : ∀ δ' : Row, V x (wHS x.g b hs n0 n1 n2 ζ η δ' χ) L (.int (haI G h k) :: st) (pc + 3)) : V x (wHS x.g b hs n0 n1 n2 ζ η δ χ) L (.int (nI k) :: .int (nI h) :: .ref (b 11 0) :: st) pc := by
  obtain ⟨δ', f⟩ := rd_hall S n2 δ χ h1 h5 hk
  exact v_callV X (st1 := .int (haI G h k) :: st) (w' := wHS x.g b hs n0 n1 n2 ζ η δ' χ) [.int (nI h), .int (nI k)] st (c_X5_hall x.l x.g b hs n0 n1 n2 ζ η δ χ (nI h) (nI k) f) rfl rfl cw_X5_hall q_505 q_506 q_507 ⟨by omega, by omega⟩ 0 5 rfl rfl rfl (Fr.all rfl) rfl hst d (kk δ')
theorem r_most {x : Ctx} {cc : ByteArray} {nl fr lo : Nat} {L : List (Nat × Value)} {st : List Value} {pc : Nat} (X : Cx x RL cc nl fr lo) (hR : 8 ≤ fr ∧ 200 ≤ lo) {b : Nat → Nat → Nat} {N : Nat} {G : NB} {z : Nat} {H : Nat → NB} {P : Option NB} {hs : Int32} {n0 n1 : Blk} {ζ : Row} {η : Nat → Blk} (S : St N G z H P hs n0 n1 ζ η) {n2 : Blk} {δ : Row} {χ : Blk} {k : Nat} (hk : k < G 0 0) {ff : Bool} (hst : (st.map fun v => v.category).sum ≤ 8) (d : decode cc pc = .ok (.invokevirtual 68, 3)) (kk : V x (wHS x.g b hs n0 n1 n2 ζ η δ χ) L (.int (nI (most G k ff 99)) :: st) (pc + 3)) : V x (wHS x.g b hs n0 n1 n2 ζ η δ χ) L (.int (b2i ff) :: .int (nI k) :: .ref (b 11 0) :: st) pc := by
  have f := rd_most S n2 δ χ hk ff
  exact v_callV X (st1 := .int (nI (most G k ff 99)) :: st) (w' := wHS x.g b hs n0 n1 n2 ζ η δ χ) [.int (nI k), .int (b2i ff)] st (c_X5_most x.l x.g b hs n0 n1 n2 ζ η δ χ (nI k) (ff) f) rfl rfl cw_X5_most q_532 q_533 q_534 ⟨by omega, by omega⟩ 0 5 rfl rfl rfl (Fr.all rfl) rfl hst d kk
theorem r_reason {x : Ctx} {cc : ByteArray} {nl fr lo : Nat} {L : List (Nat × Value)} {st : List Value} {pc : Nat} (X : Cx x RL cc nl fr lo) (hR : 8 ≤ fr ∧ 200 ≤ lo) {b : Nat → Nat → Nat} {N : Nat} {G : NB} {z : Nat} {H : Nat → NB} {P : Option NB} {hs : Int32} {n0 n1 : Blk} {ζ : Row} {η : Nat → Blk} (S : St N G z H P hs n0 n1 ζ η) {n2 : Blk} {δ : Row} {χ : Blk} {k n : Nat} (hk : k < G 0 0) {ff : Bool} (h1 : 1 ≤ n) (h9 : n ≤ 99) (hst : (st.map fun v => v.category).sum ≤ 8) (d : decode cc pc = .ok (.invokevirtual 72, 3)) (kk : V x (wHS x.g b hs n0 n1 n2 ζ η δ χ) L (.int (nI (why G k ff n)) :: st) (pc + 3)) : V x (wHS x.g b hs n0 n1 n2 ζ η δ χ) L (.int (nI n) :: .int (b2i ff) :: .int (nI k) :: .ref (b 11 0) :: st) pc := by
  have f := rd_reason S n2 δ χ hk ff h1 h9
  exact v_callV X (st1 := .int (nI (why G k ff n)) :: st) (w' := wHS x.g b hs n0 n1 n2 ζ η δ χ) [.int (nI k), .int (b2i ff), .int (nI n)] st (c_X5_reason x.l x.g b hs n0 n1 n2 ζ η δ χ (nI k) (ff) (nI n) f) rfl rfl cw_X5_reason q_537 q_538 q_539 ⟨by omega, by omega⟩ 0 5 rfl rfl rfl (Fr.all rfl) rfl hst d kk
theorem r_worst {x : Ctx} {cc : ByteArray} {nl fr lo : Nat} {L : List (Nat × Value)} {st : List Value} {pc : Nat} (X : Cx x RL cc nl fr lo) (hR : 8 ≤ fr ∧ 200 ≤ lo) {b : Nat → Nat → Nat} {N : Nat} {G : NB} {z : Nat} {H : Nat → NB} {P : Option NB} {hs : Int32} {n0 n1 : Blk} {ζ : Row} {η : Nat → Blk} (S : St N G z H P hs n0 n1 ζ η) {n2 : Blk} {δ : Row} {χ : Blk} {q : Nat} {v : Int32} (f : f_X5_worst hs n0 n1 n2 ζ η δ χ (nI q) = some v) (hst : (st.map fun v => v.category).sum ≤ 8) (d : decode cc pc = .ok (.invokevirtual 75, 3)) (kk : V x (wHS x.g b hs n0 n1 n2 ζ η δ χ) L (.int v :: st) (pc + 3)) : V x (wHS x.g b hs n0 n1 n2 ζ η δ χ) L (.int (nI q) :: .ref (b 11 0) :: st) pc := by
  skip
  exact v_callV X (st1 := .int v :: st) (w' := wHS x.g b hs n0 n1 n2 ζ η δ χ) [.int (nI q)] st (c_X5_worst x.l x.g b hs n0 n1 n2 ζ η δ χ (nI q) f) rfl rfl cw_X5_worst q_541 q_542 q_543 ⟨by omega, by omega⟩ 0 5 rfl rfl rfl (Fr.all rfl) rfl hst d kk
theorem r_worstN {x : Ctx} {cc : ByteArray} {nl fr lo : Nat} {L : List (Nat × Value)} {st : List Value} {pc : Nat} (X : Cx x RL cc nl fr lo) (hR : 8 ≤ fr ∧ 200 ≤ lo) {b : Nat → Nat → Nat} {N : Nat} {G : NB} {z : Nat} {H : Nat → NB} {P : Option NB} {hs : Int32} {n0 n1 : Blk} {ζ : Row} {η : Nat → Blk} (S : St N G z H P hs n0 n1 ζ η) {n2 : Blk} {δ : Row} {χ : Blk}  (hst : (st.map fun v => v.category).sum ≤ 8) (d : decode cc pc = .ok (.invokevirtual 75, 3)) (kk : V x (wHS x.g b hs n0 n1 n2 ζ η δ χ) L (.int (-100002) :: st) (pc + 3)) : V x (wHS x.g b hs n0 n1 n2 ζ η δ χ) L (.int (-1) :: .ref (b 11 0) :: st) pc := by
  have f := rd_worstN S n2 δ χ
  exact v_callV X (st1 := .int (-100002) :: st) (w' := wHS x.g b hs n0 n1 n2 ζ η δ χ) [.int (-1)] st (c_X5_worst x.l x.g b hs n0 n1 n2 ζ η δ χ (-1) f) rfl rfl cw_X5_worst q_541 q_542 q_543 ⟨by omega, by omega⟩ 0 5 rfl rfl rfl (Fr.all rfl) rfl hst d kk
theorem r_emptyIn {x : Ctx} {cc : ByteArray} {nl fr lo : Nat} {L : List (Nat × Value)} {st : List Value} {pc : Nat} (X : Cx x RL cc nl fr lo) (hR : 8 ≤ fr ∧ 200 ≤ lo) {b : Nat → Nat → Nat} {N : Nat} {G : NB} {z : Nat} {H : Nat → NB} {P : Option NB} {hs : Int32} {n0 n1 : Blk} {ζ : Row} {η : Nat → Blk} (S : St N G z H P hs n0 n1 ζ η) {n2 : Blk} {δ : Row} {χ : Blk} (hp : ppl G = 0) (hst : (st.map fun v => v.category).sum ≤ 8) (d : decode cc pc = .ok (.invokevirtual 83, 3)) (kk : ∀ (n2' : Blk) (δ' : Row), V x (wHS x.g b hs n0 n1 n2' ζ η δ' χ) L (.int 0 :: st) (pc + 3)) : V x (wHS x.g b hs n0 n1 n2 ζ η δ χ) L (.ref (b 11 0) :: st) pc := by
  obtain ⟨n2', δ', f⟩ := rd_emptyIn S n2 δ χ hp
  exact v_callV X (st1 := .int 0 :: st) (w' := wHS x.g b hs n0 n1 n2' ζ η δ' χ) [] st (c_X5_emptyIn x.l x.g b hs n0 n1 n2 ζ η δ χ  f) rfl rfl cw_X5_emptyIn q_558 q_559 q_560 ⟨by omega, by omega⟩ 0 5 rfl rfl rfl (Fr.all rfl) rfl hst d (kk n2' δ')
theorem r_fullness {x : Ctx} {cc : ByteArray} {nl fr lo : Nat} {L : List (Nat × Value)} {st : List Value} {pc : Nat} (X : Cx x RL cc nl fr lo) (hR : 8 ≤ fr ∧ 200 ≤ lo) {b : Nat → Nat → Nat} {N : Nat} {G : NB} {z : Nat} {H : Nat → NB} {P : Option NB} {hs : Int32} {n0 n1 : Blk} {ζ : Row} {η : Nat → Blk} (S : St N G z H P hs n0 n1 ζ η) {n2 : Blk} {δ : Row} {χ : Blk} (hst : (st.map fun v => v.category).sum ≤ 8) (d : decode cc pc = .ok (.invokevirtual 79, 3)) (kk : V x (wHS x.g b hs n0 n1 n2 ζ η δ χ) L (.double (FP.ddiv (FP.i2d (nI (ppl G))) (FP.i2d (nI (rms G)))) :: st) (pc + 3)) : V x (wHS x.g b hs n0 n1 n2 ζ η δ χ) L (.ref (b 11 0) :: st) pc := by
  obtain ⟨h1, h2, h3⟩ := rms_in S.wf
  exact v_callV X (st1 := .double _ :: st) (w' := wHS x.g b hs n0 n1 n2 ζ η δ χ) [] st (c_X5_fullness x.l x.g b hs n0 n1 n2 ζ η δ χ (cl_rms S.cl) (cl_ppl S.cl) (by rw [e0]; exact nI_ge h1 (by omega)) (fp_nn h3 h1 h2)) rfl rfl cw_X5_fullness q_550 q_551 q_552 ⟨by omega, by omega⟩ 0 5 rfl rfl rfl (Fr.all rfl) rfl hst d kk
