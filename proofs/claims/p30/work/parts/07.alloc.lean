/-- the context with other counts of cells and slots made -/
def Ctx.al (x : Ctx) (k n : Nat) : Ctx := (x.1, x.2.1, (x.meth, x.c, k, n), x.2.2.2)
def QfC (g : Gl) (A : Nat → Prop) (post : va_W → Prop) : Array Value → State → Outcome → State → Prop := fun _ st oc t => (oc = .returned none ∧ ∃ w' : va_W, post w' ∧ va_P g.1 vwCl w' t.heap ∧ va_D A w') ∧ va_F A st t
/-- a constructor's end -/
def FnC (x : Ctx) (mc ms : Nat) (post : va_W → Prop) : Prop :=
  x.meth.sig.returnType = none ∧ x.meth.locks = false ∧ x.Q = MQ x.below (QfC x.g x.A post) x.args x.s mc ms x.A ∧ x.meth.name = "<init>" ∧ va_AO RX4 x.s ∧ mc ≤ x.R.cells ∧ ms ≤ x.R.slots
def PqC (g : Gl) (w : va_W) (sz : Nat) : State → Prop := fun U => Pq g w sz U ∧ va_AO RX4 U
def OkC (l : Launch) (g : Gl) (y : MethodName) (cc : ByteArray) (maxL : Nat) (fr lo mc ms : Nat) (av : List Value) (w : va_W) (post : va_W → Prop) : Prop :=
  ∀ sz : Nat, Met l y (Cond.code y cc maxL none :: lw_all) ({ frames := fr, cells := mc, slots := ms, locals := lo } : Room) (va_Pc av (PqC g w sz)) (QfC g (va_A w sz) post) mc ms (va_A w sz)
theorem PqC.blind {g : Gl} {w : va_W} {sz : Nat} {av : List Value} : FrameBlind (va_Pc av (PqC g w sz)) := by
  intro a U g' mk q
  obtain ⟨q0, q1, q2⟩ := q
  have h := Pq.blind (g := g) (w := w) (sz := sz) (av := av) a U g' mk ⟨q0, q1⟩
  exact ⟨h.1, h.2, va_AO.moved (u := U) (U := U.calling g' mk a) (Vm.Alike.refl U.vm) q2⟩
theorem OkC.of {l : Launch} {g : Gl} {y : MethodName} {cc : ByteArray} {maxL : Nat} {fr lo mc ms : Nat} {av : List Value} {w : va_W} {post : va_W → Prop} (own : String) (hy : plainName y.cls = true) (ho : y.cls = own) (hy1 : y.name = "<init>") (hn : (lg_sl av).length ≤ maxL)
    (body : ∀ x : Ctx, x.l = l → x.g = g → Cx x own cc maxL fr lo → FnC x mc ms post → V (x.al 0 0) w (lv_args 0 av) [] 0) : OkC l g y cc maxL fr lo mc ms av w post := by
  intro sz
  refine Met.ofW (cc := cc) (maxL := maxL) (ret := none) hy rfl ?_
  intro p e s m args below meth c s₁ B hml hv
  obtain ⟨rfl, ⟨hsz, hP, hK, hD0, hN⟩, hAO⟩ := hv
  have hts := atoms_spec (ws := Cond.code y cc maxL none :: lw_all) B.pre
  have hown : s.vm.findClass own = some m.cls := ho ▸ findClass_of_methodNamed B.named
  have hin : meth.name = "<init>" := (name_of_methodNamed B.named B.method).1.trans hy1
  subst hsz
  have hD := hD0.self (sz := s.heap.size)
  rw [lg_entry_eq]
  have hl := lv_entry av (n := maxL) hn
  exact body ((p, l, e, (headSpec (Cond.code y cc maxL none :: lw_all) ({ frames := fr, cells := mc, slots := ms, locals := lo } : Room)).room), (s, m, av.toArray, below), (meth, c, 0, 0), (g, va_A w s.heap.size, maxL, _)) rfl rfl
    ⟨B.exec, B.bytes, hml, hown, fun w h => hts w (List.mem_cons_of_mem _ h), hN, hK, fun q h => Or.inr h, Nat.le_refl _, Nat.le_refl _, Nat.zero_le _, Nat.zero_le _, rfl⟩
    ⟨B.returns, B.notSynchronized, rfl, hin, hAO, Nat.le_refl _, Nat.le_refl _⟩ s.heap [] _ hP hD va_S.rf hl
section ROWSA
variable {x : Ctx} {own : String} {cc : ByteArray} {nl fr lo : Nat} {w w' : va_W} {L : List (Nat × Value)} {st : List Value} {pc : Nat}
theorem Cx.al (X : Cx x own cc nl fr lo) {k n : Nat} (h1 : k ≤ x.R.cells) (h2 : n ≤ x.R.slots) : Cx (x.al k n) own cc nl fr lo := ⟨X.1, X.2.1, X.2.2.1, X.2.2.2.1, X.2.2.2.2.1, X.2.2.2.2.2.1, X.2.2.2.2.2.2.1, X.2.2.2.2.2.2.2.1, X.2.2.2.2.2.2.2.2.1, X.2.2.2.2.2.2.2.2.2.1, h1, h2, X.2.2.2.2.2.2.2.2.2.2.2.2⟩
theorem v_perm {w2 : va_W} (is : List Nat) (hn : va_nd is = true) (hs : is.map (fun i => w[i]?) = w2.map some) (kk : V x w2 L st pc) : V x w L st pc := fun H locs ls hP hD hS hl => kk H locs ls (hP.sub is (by
  have e : is.filterMap (fun i => w[i]?) = (is.map (fun i => w[i]?)).filterMap id := by rw [List.filterMap_map]; rfl
  rw [e, hs, List.filterMap_map]
  simp)) (hD.sub is hn hs) hS hl
theorem v_objInit (X : Cx x own cc nl fr lo) {a idx : Nat} (hl1 : Cond.methodLink own idx Lib.objectInit ∈ lw_all) (hl2 : Cond.instanceMethod Lib.objectInit ∈ lw_all) (hl3 : Cond.code Lib.objectInit ⟨#[0xb1]⟩ 1 none ∈ lw_all) (hR : 1 ≤ fr) (hR2 : (st.map fun v => v.category).sum + 12 ≤ lo) (d : decode cc pc = .ok (.invokespecial idx, 3)) (kk : V x w L st (pc + 3)) : V x w L (.ref a :: st) pc :=
  fun H locs ls hP hD hS hl => W.objInit X.1 X.2.1 X.2.2.2.1 (X.2.2.2.2.1 _ hl1) (X.2.2.2.2.1 _ hl2) (X.2.2.2.2.1 _ hl3) rfl (hl.1.trans X.2.2.1.symm) rfl d (Nat.le_trans hR X.2.2.2.2.2.2.2.2.1) (by
    have h := X.2.2.2.2.2.2.2.2.2.1
    have h0 : (F0 x.m pc ls (.ref a :: st)).monitorRoom = 0 := rfl
    rw [h0]; omega) (kk H locs ls hP hD hS hl)
theorem v_new (X : Cx x own cc nl fr lo) {C : String} {T : u_T} {N ci index : Nat} {fs : List Value} (hin : ∀ w ∈ u_ws C T N, w ∈ lw_all) (ty0 : Nat → FieldType) (hty : ∀ k, k < N → parseFieldDescriptor (T k).2.2.1 = some (ty0 k)) (hl1 : Cond.classLink own index C ∈ lw_all) (hl2 : Cond.instantiable C N ∈ lw_all) (hl3 : Cond.initialized C ∈ lw_all) (hc : vwCl[ci]? = some (C, T, N)) (hfs : ∀ j, j < N → defaultValue (ty0 j) = vp_V fs j) {k n : Nat} (hk : x.cells + 1 = k) (hn : x.slots + N = n) (h1 : k ≤ x.R.cells) (h2 : n ≤ x.R.slots) (d : decode cc pc = .ok (.new index, 3))
    (kk : ∀ q : Nat, V (x.al k n) (w ++ [(q, .inr (ci, fs))]) L (.ref q :: st) (pc + 3)) : V x w L st pc := by
  subst hk; subst hn
  intro H locs ls hP hD hS hl
  exact va_new X.1 X.2.1 X.2.2.2.2.1 hin ty0 hty X.2.2.2.1 (X.2.2.2.2.1 _ hl1) (X.2.2.2.2.1 _ hl2) (X.2.2.2.2.1 _ hl3) X.2.2.2.2.2.2.1 hP hD hS X.2.2.2.2.2.2.2.1 hc hfs h1 h2 d (fun q H1 hP1 hD1 hS1 => kk q H1 locs ls hP1 hD1 hS1 hl)
theorem cA_eq {g : Gl} {s : State} {ty : FieldType} {cA cB : ClassId} {tys : List (ClassId × FieldType)} {D : va_G} (h1 : va_RA s cA ty) (h2 : va_RA s cB ty) : cA = cB := by
  cases ty with
  | object C =>
    obtain ⟨kA, comp, a1, a2, a3, a4⟩ := h1
    obtain ⟨kB, comp2, b1, b2, b3, b4⟩ := h2
    exact Option.some.inj (a4.symm.trans b4)
  | _ => exact Option.some.inj (Eq.trans (Eq.symm h1) h2)
theorem v_newaI (X : Cx x own cc nl fr lo) {N : Nat} {u : Int32} (hl1 : Cond.arrayClass .int ∈ lw_all) (hn : ¬ u < 0) (hN : u.toNatClampNeg = N) (hb : N * 4 ≤ 536870912) {k n : Nat} (hk : x.cells + 1 = k) (hn2 : x.slots + N = n) (h1 : k ≤ x.R.cells) (h2 : n ≤ x.R.slots) (d : decode cc pc = .ok (.newarray .int, 2))
    (kk : ∀ q : Nat, V (x.al k n) (w ++ [(q, .inl (x.g.2.1, N, .inl (fun _ => 0)))]) L (.ref q :: st) (pc + 2)) : V x w L (.int u :: st) pc := by
  subst hk; subst hn2
  intro H locs ls hP hD hS hl
  refine va_newa (atype := .int) (a0 := (N, .inl (fun _ => 0))) X.1 X.2.1 (X.2.2.2.2.1 _ hl1) rfl X.2.2.2.2.2.2.1 hP hD hS X.2.2.2.2.2.2.2.1 (fun cA => rfl) hn hN hb h1 h2 d (fun q cA H1 hK1 hP1 hD1 hS1 => ?_)
  have e : cA = x.g.2.1 := cA_eq (g := x.g) (tys := []) (D := x.g.1) (hK1.2 2 (cA, .int) rfl).2 (X.2.2.2.2.2.2.1.2 0 (x.g.2.1, .int) rfl).2
  subst e
  exact kk q H1 locs ls hP1 hD1 hS1 hl
theorem v_newq (X : Cx x own cc nl fr lo) {N index : Nat} {u : Int32} (hl1 : Cond.classLink own index RX4 ∈ lw_all) (hao : va_AO RX4 x.s) (hn : ¬ u < 0) (hN : u.toNatClampNeg = N) (hb : N * 4 ≤ 536870912) {k n : Nat} (hk : x.cells + 1 = k) (hn2 : x.slots + N = n) (h1 : k ≤ x.R.cells) (h2 : n ≤ x.R.slots) (d : decode cc pc = .ok (.anewarray index, 3))
    (kk : ∀ q : Nat, V (x.al k n) (w ++ [(q, .inl (x.g.2.2.2, N, .inr (.inr (.inr (.inr (fun _ => none))))))]) L (.ref q :: st) (pc + 3)) : V x w L (.int u :: st) pc := by
  subst hk; subst hn2
  intro H locs ls hP hD hS hl
  refine va_newq X.1 X.2.1 X.2.2.2.1 (X.2.2.2.2.1 _ hl1) hao X.2.2.2.2.2.2.1 hP hD hS X.2.2.2.2.2.2.2.1 hn hN hb h1 h2 d (fun q cA H1 hK1 hP1 hD1 hS1 => ?_)
  have e : cA = x.g.2.2.2 := cA_eq (g := x.g) (tys := []) (D := x.g.1) (hK1.2 2 (cA, .object RX4) rfl).2 (X.2.2.2.2.2.2.1.2 1 (x.g.2.2.2, .object RX4) rfl).2
  subst e
  exact kk q H1 locs ls hP1 hD1 hS1 hl
theorem v_astq (X : Cx x own cc nl fr lo) {a n v : Nat} {f : Nat → Option Nat} {i : Int32} {vs : List Value} (q0 qk : Nat) (ha : w[q0]? = some (a, .inl (x.g.2.2.2, n, .inr (.inr (.inr (.inr f)))))) (hv : w[qk]? = some (v, .inr (4, vs))) (hin : vp_in i n) (hw : w.set q0 (a, .inl (x.g.2.2.2, n, .inr (.inr (.inr (.inr (va_up f i.toNatClampNeg (some v))))))) = w') (d : decode cc pc = .ok (.aastore, 1)) (kk : V x w' L st (pc + 1)) : V x w L (.ref v :: .int i :: .ref a :: st) pc :=
  fun H locs ls hP hD hS hl => va_astq X.1 X.2.1 X.2.2.2.2.2.2.1 hP hD hS q0 1 qk 4 (r := (RX4, TX4, 11)) ha rfl hv rfl hin d (fun H1 locs1 hP1 hD1 hS1 => kk H1 locs1 ls (hw ▸ hP1) (hw ▸ hD1) hS1 hl)
theorem v_putF (X : Cx x own cc nl fr lo) (hin2 : x.meth.name = "<init>") {C ref : String} {T : u_T} {N ci index a : Nat} {fs : List Value} {v : Value} (hin : ∀ w ∈ u_ws C T N, w ∈ lw_all) (q0 : Nat) (he : w[q0]? = some (a, .inr (ci, fs))) (hc : vwCl[ci]? = some (C, T, N)) (k : Nat) (hk : k < N) (hlink : Cond.fieldLink own index ref (T k).2.1 (T k).2.2.1 ∈ lw_all) (hsame : (T k).1 = ref) (ty0 : Nat → FieldType) (hty : ∀ k, k < N → parseFieldDescriptor (T k).2.2.1 = some (ty0 k)) (hnm : ∀ a, a < N → ∀ b, b < N → a ≠ b → (T a).2.1 ≠ (T b).2.1) (hfin : (T k).2.2.2 = true) (hdecl : (T k).1 = own) (hn : narrow (ty0 k) v = v) (hfit : fits (ty0 k) v = true) (hl0 : k < fs.length) (hw : w.set q0 (a, .inr (ci, fs.set k v)) = w') (d : decode cc pc = .ok (.putfield index, 3)) (kk : V x w' L st (pc + 3)) : V x w L (v :: .ref a :: st) pc :=
  fun H locs ls hP hD hS hl => va_putF X.1 X.2.1 X.2.2.2.2.1 hin ty0 hty hnm X.2.2.2.1 X.2.2.2.2.2.2.1 hP hD hS q0 he hc k hk (X.2.2.2.2.1 _ hlink) (fun _ h => hsame ▸ h) hfin hin2 hdecl (hty k hk) hn hfit hl0 d (fun H1 locs1 hP1 hD1 hS1 => kk H1 locs1 ls (hw ▸ hP1) (hw ▸ hD1) hS1 hl)
/-- a constructor called on the world's last cell -/
theorem v_runC (X : Cx x own cc nl fr lo) {wr wc : va_W} {post : va_W → Prop} {rest st0 : List Value} {aa : Array Value} {mc ms k n : Nat} (hk : x.cells + mc = k) (hn : x.slots + ms = n)
    (hr : ∀ (H : Heap) (locs : List Loc) (ls : Array Slot), va_P x.g.1 vwCl wc H → va_D (fun _ => True) wc → lv_has ls x.nL L → va_Run x.p x.l x.e x.R x.s x.m x.args x.below x.meth x.c H locs x.cells x.slots mc ms (F0 x.m pc ls st0) rest (QfC x.g (va_A wc H.size) post aa) (va_A wc H.size))
    (kk : ∀ w1 : va_W, post w1 → V (x.al k n) (wr ++ w1) L rest (pc + 3)) : V x (wr ++ wc) L st0 pc := by
  subst hk; subst hn
  intro H locs ls hP hD hS hl T hT X0
  have hC : (List.range' wr.length wc.length).map (fun i => (wr ++ wc)[i]?) = wc.map some := by
    apply List.ext_getElem?
    intro i
    by_cases h : i < wc.length
    · simp [List.getElem?_append_right, h]
    · simp [h]
  have hR : (List.range wr.length).map (fun i => (wr ++ wc)[i]?) = wr.map some := by
    apply List.ext_getElem?
    intro i
    by_cases h : i < wr.length
    · simp [List.getElem?_append_left, h]
    · simp [h]
  have nd : ∀ (n k : Nat), va_nd (List.range' k n) = true := by
    intro n
    induction n with
    | zero => intro k; rfl
    | succ n ih =>
      intro k
      simp only [List.range'_succ, va_nd, Bool.and_eq_true, decide_eq_true_eq]
      exact ⟨by simp [List.mem_range']; omega, ih _⟩
  have hPc : va_P x.g.1 vwCl wc H := by
    intro j q hq
    exact hP (wr.length + j) q (by rw [List.getElem?_append_right (by omega)]; simpa using hq)
  have hDc : va_D x.A wc := hD.sub _ (nd _ _) hC
  have hFc := va_free (wc := wc) hD hS X.2.2.2.2.2.2.2.1 _ hC
  obtain ⟨v, st₀, t, T', Lc, h0, X', hL, e1, e2, ⟨⟨hv, w1, hpo, hP1, hD1⟩, hz, hk⟩, stp⟩ := hr H locs ls hPc (hDc.weaken (fun _ _ _ _ => trivial)) hl T hT X0
  have hvr : v = none := Outcome.returned.inj hv
  subst hvr
  rw [h0] at hz hk
  have hS' : va_S x.A x.s.heap T'.heap (locs ++ Lc) := ⟨Nat.le_trans hS.1 (by rw [e1]; exact hz), fun q h1 h2 => by rw [e1, hk q (Nat.lt_of_lt_of_le h1 hS.1) (fun z => h2 (hFc q z))]; exact hS.2.1 q h1 h2, fun q hq => by
      rcases List.mem_append.mp hq with h | h
      · exact hS.2.2 q h
      · exact hFc _ (hL q h)⟩
  obtain ⟨hPj, hDj⟩ := va_join (wr := wr) (w1 := w1) (H1 := T'.heap) hP hD _ (List.range wr.length) hC hR (by rw [List.range_eq_range']; exact nd _ _) (fun i h1 h2 => by
    simp [List.mem_range'] at h1 h2
    omega) (fun q h1 h2 => by rw [e1]; exact hk q h1 h2) hFc (by rw [e1]; exact hP1) hD1
  obtain ⟨t2, a1, b1⟩ := kk w1 hpo T'.heap (locs ++ Lc) ls hPj hDj hS' hl T' rfl X'
  exact ⟨t2, stp t2 a1, b1⟩
theorem v_preC (X : Cx x own cc nl fr lo) (hao : va_AO RX4 x.s) {wc : va_W} {av : List Value} {H : Heap} (hPc : va_P x.g.1 vwCl wc H) (hDc : va_D (fun _ => True) wc) : ∀ U : State, U.heap = H → x.s.WarmedH U.vm → va_Pc av (PqC x.g wc H.size) av.toArray U :=
  fun U hU hW => ⟨rfl, (v_pre X (av := av) hPc hDc U hU hW).2, va_AO.moved hW.alike hao⟩
theorem v_callI (X : Cx x own cc nl fr lo) (hao : va_AO RX4 x.s) {y : MethodName} {cc' : ByteArray} {maxL' index fr' lo' b mc ms k n : Nat} {wr wc : va_W} {post : va_W → Prop} {rest : List Value}
    (hM : OkC x.l x.g y cc' maxL' fr' lo' mc ms [.ref b] wc post) (c : CwB y cc' maxL' none 0) (hl : Cond.methodLink own index y ∈ lw_all) (hi : Cond.instanceMethod y ∈ lw_all) (hy1 : y.name = "<init>") (hR : fr' + 1 ≤ fr ∧ 8 + (maxL' + 11) + lo' ≤ lo) (hk : x.cells + mc = k) (hn : x.slots + ms = n) (h1 : k ≤ x.R.cells) (h2 : n ≤ x.R.slots) (hst : (rest.map fun v => v.category).sum ≤ 8) (d : decode cc pc = .ok (.invokespecial index, 3))
    (kk : ∀ w1 : va_W, post w1 → V (x.al k n) (wr ++ w1) L rest (pc + 3)) : V x (wr ++ wc) L (.ref b :: rest) pc := by
  refine v_runC X (aa := [Value.ref b].toArray) hk hn (fun H locs ls hPc hDc hlv => ?_) kk
  exact va_runI (As := []) (rest := rest) (b := b) ⟨X.1, X.2.1, rfl, X.2.2.2.1, X.2.2.2.2.1⟩ (hM H.size) ⟨callB_of 0 (Ts := lw_all) X.2.2.2.2.1 (fun w h => by rcases List.mem_cons.mp h with rfl | h; exact ⟨c.1, gw c.1⟩; exact ⟨h, gw h⟩) rfl rfl rfl (X.2.2.2.2.1 _ c.2.1) (X.2.2.2.2.1 _ hl) c.2.2 ⟨Nat.le_trans hR.1 X.2.2.2.2.2.2.2.2.1, Nat.le_trans hR.2 X.2.2.2.2.2.2.2.2.2.1⟩, hy1, X.2.2.2.2.1 _ hi⟩
    ⟨PqC.blind, v_preC X hao hPc hDc⟩ rfl rfl (hlv.1.trans X.2.2.1.symm) rfl (lv_room hst) d ⟨by omega, by omega⟩
theorem v_callIN (X : Cx x own cc nl fr lo) (hao : va_AO RX4 x.s) {y : MethodName} {cc' : ByteArray} {maxL' index fr' lo' b mc ms k n : Nat} {host : String} {wr wc : va_W} {post : va_W → Prop} {rest : List Value}
    (hM : OkC x.l x.g y cc' maxL' fr' lo' mc ms [.ref b] wc post) (c : CwB y cc' maxL' none 0) (hl : Cond.methodLinkNest own index y host ∈ lw_nst) (hi : Cond.instanceMethod y ∈ lw_all) (hy1 : y.name = "<init>") (hR : fr' + 1 ≤ fr ∧ 8 + (maxL' + 11) + lo' ≤ lo) (hk : x.cells + mc = k) (hn : x.slots + ms = n) (h1 : k ≤ x.R.cells) (h2 : n ≤ x.R.slots) (hst : (rest.map fun v => v.category).sum ≤ 8) (d : decode cc pc = .ok (.invokespecial index, 3))
    (kk : ∀ w1 : va_W, post w1 → V (x.al k n) (wr ++ w1) L rest (pc + 3)) : V x (wr ++ wc) L (.ref b :: rest) pc := by
  refine v_runC X (aa := [Value.ref b].toArray) hk hn (fun H locs ls hPc hDc hlv => ?_) kk
  exact va_runIN (As := []) (rest := rest) (b := b) ⟨X.1, X.2.1, rfl, X.2.2.2.1, X.2.2.2.2.1⟩ (hM H.size) ⟨va_cnB 0 (Ts := lw_all) X.2.2.2.2.1 (fun w h => by rcases List.mem_cons.mp h with rfl | h; exact ⟨c.1, gw c.1⟩; exact ⟨h, gw h⟩) rfl rfl rfl (X.2.2.2.2.2.1 _ hl) (X.2.2.2.2.1 _ c.2.1) c.2.2 ⟨Nat.le_trans hR.1 X.2.2.2.2.2.2.2.2.1, Nat.le_trans hR.2 X.2.2.2.2.2.2.2.2.2.1⟩, hy1, X.2.2.2.2.1 _ hi⟩
    ⟨PqC.blind, v_preC X hao hPc hDc⟩ rfl rfl (hlv.1.trans X.2.2.1.symm) rfl (lv_room hst) d ⟨by omega, by omega⟩
theorem v_cret (X : Cx x own cc nl fr lo) {mc ms : Nat} {post : va_W → Prop} (F : FnC x mc ms post) (hc : x.cells = mc) (hs : x.slots = ms) (hp : post w) (d : decode cc pc = .ok (.return_, 1)) : V x w L [] pc := by
  intro H locs ls hP hD hS hl
  obtain ⟨f1, f2, f3, -⟩ := F
  rw [f3, ← hc, ← hs]
  exact W.vret X.1 X.2.1 f1 (fun t ht hW => ⟨⟨rfl, w, hp, by rw [ht]; exact hP, hD⟩, hS.F ht⟩) hS.2.2 d f2
theorem FnC.al {mc ms : Nat} {post : va_W → Prop} (F : FnC x mc ms post) {k n : Nat} : FnC (x.al k n) mc ms post := F
end ROWSA

theorem arrV_agree {cA : ClassId} {n : Nat} {f f2 : Nat → Value} (h : ∀ j, j < n → f j = f2 j) : arrV cA n f = arrV cA n f2 := by
  unfold arrV
  have e : (fun j : Fin n => f j.val) = (fun j : Fin n => f2 j.val) := funext fun j => h j.val j.isLt
  rw [e]
/-- a row of references read as another one that agrees with it where the row is -/
theorem v_ring {x : Ctx} {w w' : va_W} {L : List (Nat × Value)} {st : List Value} {pc : Nat} (q0 : Nat) {a n : Nat} {cA : ClassId} {f f2 : Nat → Option Nat} (ha : w[q0]? = some (a, .inl (cA, n, .inr (.inr (.inr (.inr f)))))) (hf : ∀ j, j < n → f j = f2 j) (hw : w.set q0 (a, .inl (cA, n, .inr (.inr (.inr (.inr f2))))) = w') (kk : V x w' L st pc) : V x w L st pc := by
  subst hw
  intro H locs ls hP hD hS hl
  refine kk H locs ls (hP.set hD ha ?_ (fun q _ => rfl)) (hD.set ha) hS hl
  have h1 := hP q0 _ ha
  have e : vp_cell cA (n, .inr (.inr (.inr (.inr f)))) = vp_cell cA (n, .inr (.inr (.inr (.inr f2)))) := by
    rw [vp_cell_q, vp_cell_q]
    exact arrV_agree (fun j hj => by rw [hf j hj])
  exact h1.trans (by rw [e])
def adL (l : List Nat) : Nat → Nat := fun k => l.getD k 0
