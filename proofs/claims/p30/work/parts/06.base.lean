abbrev Row : Type := Nat → Int32
abbrev Blk : Type := Nat → Nat → Int32
/-- the tables' kinds, and the array classes of ints, chars and states -/
abbrev Gl : Type := va_G × ClassId × ClassId × ClassId
def TY (g : Gl) : List (ClassId × FieldType) := [(g.2.1, .int), (g.2.2.2, .object RX4)]
def upR (σ : Blk) (p : Nat) (f : Row) : Blk := fun q => cond (Nat.beq q p) f (σ q)
def up (σ : Blk) (p i : Nat) (v : Int32) : Blk := upR σ p (upd (σ p) i v)
def b2i (b : Bool) : Int32 := cond b 1 0
abbrev Ctx : Type := (Program × Launch × Env × Room) × (State × MethodId × Array Value × List Frame) × (Method × Code × Nat × Nat) × (Gl × (Nat → Prop) × Nat × (State → Prop))
abbrev Ctx.p (x : Ctx) : Program := x.1.1
abbrev Ctx.l (x : Ctx) : Launch := x.1.2.1
abbrev Ctx.e (x : Ctx) : Env := x.1.2.2.1
abbrev Ctx.R (x : Ctx) : Room := x.1.2.2.2
abbrev Ctx.s (x : Ctx) : State := x.2.1.1
abbrev Ctx.m (x : Ctx) : MethodId := x.2.1.2.1
abbrev Ctx.args (x : Ctx) : Array Value := x.2.1.2.2.1
abbrev Ctx.below (x : Ctx) : List Frame := x.2.1.2.2.2
abbrev Ctx.meth (x : Ctx) : Method := x.2.2.1.1
abbrev Ctx.c (x : Ctx) : Code := x.2.2.1.2.1
abbrev Ctx.cells (x : Ctx) : Nat := x.2.2.1.2.2.1
abbrev Ctx.slots (x : Ctx) : Nat := x.2.2.1.2.2.2
abbrev Ctx.g (x : Ctx) : Gl := x.2.2.2.1
abbrev Ctx.A (x : Ctx) : Nat → Prop := x.2.2.2.2.1
abbrev Ctx.nL (x : Ctx) : Nat := x.2.2.2.2.2.1
abbrev Ctx.Q (x : Ctx) : State → Prop := x.2.2.2.2.2.2
/-- at pc, with the world w, the locals L, the stack st: the machine comes to its end -/
def V (x : Ctx) (w : va_W) (L : List (Nat × Value)) (st : List Value) (pc : Nat) : Prop :=
  ∀ (H : Heap) (locs : List Loc) (ls : Array Slot), va_P x.g.1 vwCl w H → va_D x.A w → va_S x.A x.s.heap H locs → lv_has ls x.nL L → W x.p x.l x.e x.R x.s x.m x.args x.below x.meth x.c H locs x.cells x.slots x.Q (F0 x.m pc ls st)
/-- what stays while a method runs -/
def Cx (x : Ctx) (own : String) (cc : ByteArray) (nl fr lo : Nat) : Prop :=
  x.p.tables.exec = Jvm.exec ∧ x.c.code = cc ∧ x.c.maxLocals = x.nL ∧ x.s.vm.findClass own = some x.m.cls ∧ (∀ w ∈ lw_all, w.before x.args x.s = true) ∧ (∀ w ∈ lw_nst, va_Nw w x.s) ∧ va_K x.g.1 vwCl (TY x.g) x.s ∧ (∀ q : Nat, x.s.heap.size ≤ q → x.A q) ∧ fr ≤ x.R.frames ∧ lo ≤ x.R.locals ∧ x.cells ≤ x.R.cells ∧ x.slots ≤ x.R.slots ∧ x.nL = nl
def Qf (g : Gl) (A : Nat → Prop) (r : Option Value) (w' : va_W) : Array Value → State → Outcome → State → Prop := fun _ st oc t => (oc = .returned r ∧ va_P g.1 vwCl w' t.heap ∧ va_D A w') ∧ va_F A st t
/-- the end: what the method returns, and the world behind it -/
def Fn (x : Ctx) (ret : Option FieldType) (r : Option Value) (w' : va_W) : Prop :=
  x.meth.sig.returnType = ret ∧ x.meth.locks = false ∧ x.Q = MQ x.below (Qf x.g x.A r w') x.args x.s x.cells x.slots x.A
def Pq (g : Gl) (w : va_W) (sz : Nat) : State → Prop := fun U => U.heap.size = sz ∧ va_P g.1 vwCl w U.heap ∧ va_K g.1 vwCl (TY g) U ∧ va_D (fun _ => True) w ∧ ∀ q ∈ lw_nst, va_Nw q U
/-- a method's contract: on the world w, with these arguments, it returns r and leaves w' -/
def Ok (l : Launch) (g : Gl) (y : MethodName) (cc : ByteArray) (maxL : Nat) (ret : Option FieldType) (fr lo : Nat) (av : List Value) (w : va_W) (r : Option Value) (w' : va_W) : Prop :=
  ∀ sz : Nat, Met l y (Cond.code y cc maxL ret :: lw_all) ({ frames := fr, cells := 0, slots := 0, locals := lo } : Room) (va_Pc av (Pq g w sz)) (Qf g (va_A w sz) r w') 0 0 (va_A w sz)
theorem nst_moved {s U : State} (hW : s.WarmedH U.vm) (h : ∀ w ∈ lw_nst, va_Nw w s) : ∀ w ∈ lw_nst, va_Nw w U := by
  intro w hw
  have h1 := h w hw
  have hk : lw_isNst w = true := List.all_eq_true.mp lw_nst_all w hw
  cases w <;> first | exact va_Nw.warmF hW h1 | exact va_Nw.warmM hW h1 | (exact absurd hk (by decide)) | (simp [lw_isNst] at hk)
theorem nst_calling {U : State} {g : JFrame} {mk : MethodId} {a : Array Value} (h : ∀ w ∈ lw_nst, va_Nw w U) : ∀ w ∈ lw_nst, va_Nw w (U.calling g mk a) := by
  intro w hw
  have h1 := h w hw
  have hk : lw_isNst w = true := List.all_eq_true.mp lw_nst_all w hw
  have ho : w.onTables = true := by
    cases w <;> first | rfl | (simp [lw_isNst] at hk)
  exact va_Nw.same ho (u := U) (U := U.calling g mk a) rfl h1
theorem Pq.blind {g : Gl} {w : va_W} {sz : Nat} {av : List Value} : FrameBlind (va_Pc av (Pq g w sz)) := by
  intro a U g' mk q
  obtain ⟨q0, q1, qP, qK, qD, qN⟩ := q
  exact ⟨q0, q1, qP, va_K.moved (u := U) (U := U.calling g' mk a) (Vm.Alike.refl U.vm) qK, qD, nst_calling qN⟩
theorem gw {w : Cond} (h : w ∈ lw_all) : (w.onTables && w.keeps) = true ∨ ∃ ty, w = .arrayClass ty := good_of_word (List.mem_filter.mp h).2
theorem lw_all_tbl {w : Cond} (h : w ∈ lw_all) : w ∈ lw_tbl := (List.mem_filter.mp h).1
/-- a contract out of one walk from the entry -/
theorem Ok.of {l : Launch} {g : Gl} {y : MethodName} {cc : ByteArray} {maxL : Nat} {ret : Option FieldType} {fr lo : Nat} {av : List Value} {w : va_W} {r : Option Value} {w' : va_W} (own : String) (hy : plainName y.cls = true) (ho : y.cls = own) (hn : (lg_sl av).length ≤ maxL)
    (body : ∀ x : Ctx, x.l = l → x.g = g → Cx x own cc maxL fr lo → Fn x ret r w' → V x w (lv_args 0 av) [] 0) : Ok l g y cc maxL ret fr lo av w r w' := by
  intro sz
  refine Met.ofW (cc := cc) (maxL := maxL) (ret := ret) hy rfl ?_
  intro p e s m args below meth c s₁ B hml hv
  obtain ⟨rfl, hsz, hP, hK, hD0, hN⟩ := hv
  have hts := atoms_spec (ws := Cond.code y cc maxL ret :: lw_all) B.pre
  have hown : s.vm.findClass own = some m.cls := ho ▸ findClass_of_methodNamed B.named
  subst hsz
  have hD := hD0.self (sz := s.heap.size)
  rw [lg_entry_eq]
  have hl := lv_entry av (n := maxL) hn
  exact body ((p, l, e, (headSpec (Cond.code y cc maxL ret :: lw_all) ({ frames := fr, cells := 0, slots := 0, locals := lo } : Room)).room), (s, m, av.toArray, below), (meth, c, 0, 0), (g, va_A w s.heap.size, maxL, _)) rfl rfl
    ⟨B.exec, B.bytes, hml, hown, fun w h => hts w (List.mem_cons_of_mem _ h), hN, hK, fun q h => Or.inr h, Nat.le_refl _, Nat.le_refl _, Nat.le_refl _, Nat.le_refl _, rfl⟩
    ⟨B.returns, B.notSynchronized, rfl⟩ s.heap [] _ hP hD va_S.rf hl
/-- the world w' is w with its part wc become wc', every cell where it was -/
def Fr (w wc wc' w' : va_W) : Prop := ∃ is : List Nat, is.map (fun i => w[i]?) = wc.map some ∧ va_nd is = true ∧ w'.map Prod.fst = w.map Prod.fst ∧ wc'.map Prod.fst = wc.map Prod.fst ∧ ∀ (k : Nat) (q : Nat × va_E), w'[k]? = some q → (∃ j : Nat, is[j]? = some k ∧ wc'[j]? = some q) ∨ (k ∉ is ∧ w[k]? = some q)
/-- the k-th cell, or the part's cell that takes its place -/
def pick : List Nat → va_W → Nat → (Nat × va_E) → (Nat × va_E)
  | i :: is, c :: cs, k, q => cond (Nat.beq k i) c (pick is cs k q)
  | _, _, _, q => q
def mixA (is : List Nat) (wc' : va_W) : Nat → va_W → va_W
  | _, [] => []
  | k, q :: w => pick is wc' k q :: mixA is wc' (k + 1) w
theorem pick_spec : ∀ (is : List Nat) (cs : va_W) (k : Nat) (q : Nat × va_E), is.length = cs.length → (∃ j : Nat, is[j]? = some k ∧ cs[j]? = some (pick is cs k q)) ∨ (k ∉ is ∧ pick is cs k q = q)
  | [], cs, k, q, _ => Or.inr ⟨List.not_mem_nil, by cases cs <;> rfl⟩
  | i :: is, [], k, q, h => by simp at h
  | i :: is, c :: cs, k, q, h => by
    by_cases hk : k = i
    · subst hk
      exact Or.inl ⟨0, rfl, by simp [pick]⟩
    · have hb : Nat.beq k i = false := by
        cases hh : Nat.beq k i with
        | false => rfl
        | true => exact absurd (Nat.eq_of_beq_eq_true hh) hk
      have e : pick (i :: is) (c :: cs) k q = pick is cs k q := by simp [pick, hb]
      rw [e]
      rcases pick_spec is cs k q (by simpa using h) with ⟨j, h1, h2⟩ | ⟨h1, h2⟩
      · exact Or.inl ⟨j + 1, by simpa using h1, by simpa using h2⟩
      · exact Or.inr ⟨by simp [hk, h1], h2⟩
theorem mixA_get (is : List Nat) (wc' : va_W) : ∀ (w : va_W) (k0 k : Nat), (mixA is wc' k0 w)[k]? = (w[k]?).map (fun q => pick is wc' (k0 + k) q)
  | [], k0, k => by simp [mixA]
  | q :: w, k0, 0 => by simp [mixA]
  | q :: w, k0, k + 1 => by
    have h := mixA_get is wc' w (k0 + 1) k
    simp only [mixA, List.getElem?_cons_succ]
    rw [h, show k0 + 1 + k = k0 + (k + 1) by omega]
theorem Fr.of {w wc wc' w' : va_W} (is : List Nat) (h1 : is.map (fun i => w[i]?) = wc.map some) (hn : va_nd is = true) (hw : mixA is wc' 0 w = w') (ha : wc'.map Prod.fst = wc.map Prod.fst) (ha' : w'.map Prod.fst = w.map Prod.fst) : Fr w wc wc' w' := by
  refine ⟨is, h1, hn, ha', ha, fun k q hk => ?_⟩
  rw [← hw, mixA_get, Nat.zero_add] at hk
  have hlen : is.length = wc'.length := by
    have e1 := congrArg List.length h1
    have e2 := congrArg List.length ha
    simp at e1 e2
    omega
  cases hwk : w[k]? with
  | none => rw [hwk] at hk; cases hk
  | some q0 =>
    rw [hwk] at hk
    have hq : pick is wc' k q0 = q := Option.some.inj hk
    rcases pick_spec is wc' k q0 hlen with ⟨j, h3, h4⟩ | ⟨h3, h4⟩
    · exact Or.inl ⟨j, h3, by rw [h4, hq]⟩
    · exact Or.inr ⟨h3, by rw [← hq, h4]⟩
theorem Fr.all {w w' : va_W} (ha : w'.map Prod.fst = w.map Prod.fst) : Fr w w w' w' := by
  refine ⟨List.range w.length, ?_, ?_, ha, ha, fun k q hk => Or.inl ⟨k, ?_, hk⟩⟩
  · apply List.ext_getElem?
    intro i
    by_cases h : i < w.length
    · simp [h]
    · simp [h]
  · have key : ∀ (n k : Nat), va_nd (List.range' k n) = true := by
      intro n
      induction n with
      | zero => intro k; rfl
      | succ n ih =>
        intro k
        simp only [List.range'_succ, va_nd, Bool.and_eq_true, decide_eq_true_eq]
        exact ⟨by simp [List.mem_range']; omega, ih _⟩
    rw [List.range_eq_range']
    exact key _ _
  · have h1 : k < w'.length := (List.getElem?_eq_some_iff.mp hk).1
    have h2 := congrArg List.length ha
    simp at h2
    simp only [List.getElem?_range (show k < w.length by omega)]
theorem Fr.sub {w wc wc' w' : va_W} (h : Fr w wc wc' w') : ∀ (k : Nat) (q : Nat × va_E), wc[k]? = some q → ∃ i : Nat, w[i]? = some q := by
  obtain ⟨is, h1, -⟩ := h
  intro k q hq
  have h2 : (is.map (fun i => w[i]?))[k]? = some (some q) := by rw [h1, List.getElem?_map, hq]; rfl
  rw [List.getElem?_map] at h2
  cases hi : is[k]? with
  | none => rw [hi] at h2; cases h2
  | some i => rw [hi] at h2; exact ⟨i, Option.some.inj h2⟩
theorem Fr.P {D : va_G} {cl : List vw_C} {H : Heap} {w wc wc' w' : va_W} (h : Fr w wc wc' w') (hP : va_P D cl w H) : va_P D cl wc H := by
  intro k q hq
  obtain ⟨i, hi⟩ := h.sub k q hq
  exact hP i q hi
theorem Fr.D {A : Nat → Prop} {w wc wc' w' : va_W} (h : Fr w wc wc' w') (hD : va_D A w) : va_D A wc := by
  obtain ⟨is, h1, h2, -⟩ := h
  exact hD.sub is h2 h1
theorem Fr.free {A : Nat → Prop} {H0 H : Heap} {locs : List Loc} {w wc wc' w' : va_W} (h : Fr w wc wc' w') (hD : va_D A w) (hS : va_S A H0 H locs) (hA : ∀ q, H0.size ≤ q → A q) : ∀ q, va_A wc H.size q → A q := by
  obtain ⟨is, h1, -⟩ := h
  exact va_free hD hS hA is h1
theorem Fr.D' {A : Nat → Prop} {w wc wc' w' : va_W} (h : Fr w wc wc' w') (hD : va_D A w) : va_D A w' := by
  obtain ⟨is, h1, h2, h3, -⟩ := h
  have key : ∀ (k : Nat) (q : Nat × va_E), w'[k]? = some q → ∃ q0, w[k]? = some q0 ∧ q0.1 = q.1 := by
    intro k q hk
    have e1 : (w'.map Prod.fst)[k]? = some q.1 := by rw [List.getElem?_map, hk]; rfl
    rw [h3, List.getElem?_map] at e1
    cases hw : w[k]? with
    | none => rw [hw] at e1; cases e1
    | some q0 => rw [hw] at e1; exact ⟨q0, rfl, Option.some.inj e1⟩
  refine ⟨fun i j p q hi hj hpq => ?_, fun k q hk => ?_⟩
  · obtain ⟨p0, h5, h6⟩ := key i p hi
    obtain ⟨q0, h7, h8⟩ := key j q hj
    exact hD.1 i j p0 q0 h5 h7 (by rw [h6, h8, hpq])
  · obtain ⟨q0, h5, h6⟩ := key k q hk
    rw [← h6]
    exact hD.2 k q0 h5
theorem Fr.P' {D : va_G} {cl : List vw_C} {A : Nat → Prop} {H H1 : Heap} {w wc wc' w' : va_W} (h : Fr w wc wc' w') (hP : va_P D cl w H) (hD : va_D A w) (hk : ∀ q : Nat, q < H.size → ¬ va_A wc H.size q → H1[q]? = H[q]?) (hP1 : va_P D cl wc' H1) : va_P D cl w' H1 := by
  obtain ⟨is, h1, h2, h3, h4, h5⟩ := h
  intro k q hq
  rcases h5 k q hq with ⟨j, h6, h7⟩ | ⟨h6, h7⟩
  · exact hP1 j q h7
  · have hl := (hP k q h7).lt
    refine (hP k q h7).kept (hk q.1 hl ?_)
    rintro (⟨j, e, hj⟩ | hj)
    · have e1 : (is.map (fun i => w[i]?))[j]? = some (some (q.1, e)) := by rw [h1, List.getElem?_map, hj]; rfl
      rw [List.getElem?_map] at e1
      cases hi : is[j]? with
      | none => rw [hi] at e1; cases e1
      | some i =>
        rw [hi] at e1
        have hki := hD.1 k i q (q.1, e) h7 (Option.some.inj e1) rfl
        exact h6 (by rw [hki]; exact List.mem_of_getElem? hi)
    · omega
theorem Fr.nil {w : va_W} : Fr w [] [] w := ⟨[], rfl, rfl, rfl, rfl, fun k q h => Or.inr ⟨List.not_mem_nil, h⟩⟩
def minF (a b : Int32) : Int32 := if b < a then b else a
def maxF (a b : Int32) : Int32 := if a < b then b else a
def absF (a : Int32) : Int32 := if 0 ≤ a then a else 0 - a
def i2cF (a : Int32) : Int32 := (a.toUInt32 % 65536).toInt32
def FU : Nat := 4294967296
def lt {α β : Type} (v : α) (f : α → β) : β := f v
theorem lts {α β : Type} {v : α} {f : α → β} {r : β} (h : lt v f = r) : ∃ a, v = a ∧ f a = r := ⟨v, rfl, h⟩
theorem hp {c : Prop} {dc : Decidable c} {α : Type} {a b r : α} (hc : c) (h : (@ite _ c dc a b) = r) : a = r := by rw [if_pos hc] at h; exact h
theorem hn {c : Prop} {dc : Decidable c} {α : Type} {a b r : α} (hc : ¬ c) (h : (@ite _ c dc a b) = r) : b = r := by rw [if_neg hc] at h; exact h
theorem nbt {b : Bool} (h : b = false) : ¬ b = true := by rw [h]; exact Bool.false_ne_true
def ib (i : Int32) (n : Nat) : Bool := decide (0 ≤ i.toInt) && decide (i.toInt < (n : Int))
theorem ib_iff {i : Int32} {n : Nat} : ib i n = true ↔ 0 ≤ i.toInt ∧ i.toInt < (n : Int) := by simp [ib]
theorem ib_in {i : Int32} {n : Nat} (h : ib i n = true) : vp_in i n := vp_in_iff.mpr (ib_iff.mp h)
def isCh (v : Int32) : Bool := decide (0 ≤ v.toInt) && decide (v.toInt < 65536)
theorem isCh_nI {v : Int32} (h : isCh v = true) : ∃ q : Nat, q < 65536 ∧ v = nI q := by
  have h1 : 0 ≤ v.toInt ∧ v.toInt < 65536 := by simpa [isCh] using h
  refine ⟨v.toInt.toNat, by omega, Int32.toInt_inj.mp ?_⟩
  rw [nI_toInt (by omega)]
  omega
theorem nar_c {v : Int32} (h : isCh v = true) : narrow .char (.int v) = .int v := by
  obtain ⟨q, hq, rfl⟩ := isCh_nI h
  exact (pk_charN hq).1
theorem fit_c {v : Int32} (h : isCh v = true) : fits .char (.int v) = true := by
  obtain ⟨q, hq, rfl⟩ := isCh_nI h
  exact (pk_charN hq).2
theorem fit_b (b : Bool) : fits .boolean (.int (b2i b)) = true := by cases b <;> rfl
def wRow (g : Gl) (b n : Nat) (f : Row) : Nat × va_E := (b, .inl (g.2.1, n, .inl f))
def wSt (g : Gl) (a : Nat → Nat) (σ : Blk) : va_W := [(a 0, .inr (4, [.ref (a 1), .ref (a 2), .ref (a 3), .ref (a 4), .ref (a 5), .ref (a 6), .ref (a 11), .int (σ 0 0), .int (σ 0 1), .int (σ 0 2), .int (σ 0 3)])),
  (a 1, .inl (g.2.1, 6, .inl (σ 1))), (a 2, .inl (g.2.1, 6, .inl (σ 2))), (a 3, .inl (g.2.1, 12, .inl (σ 3))), (a 4, .inl (g.2.1, 12, .inl (σ 4))), (a 5, .inl (g.2.1, 12, .inl (σ 5))), (a 6, .inl (g.2.1, 12, .inl (σ 6))),
  (a 7, .inl (g.2.1, 48, .inl (σ 7))), (a 8, .inl (g.2.1, 48, .inl (σ 8))), (a 9, .inl (g.2.1, 48, .inl (σ 9))), (a 10, .inl (g.2.1, 48, .inl (σ 10))), (a 11, .inr (1, [.ref (a 7), .ref (a 8), .ref (a 9), .ref (a 10)]))]
def wCl (g : Gl) (a : Nat → Nat) (δ : Row) : va_W := [(a 0, .inr (0, [.ref (a 1)])), (a 1, .inl (g.2.1, 6, .inl δ))]
def wSc (g : Gl) (a : Nat → Nat) (χ : Blk) : va_W := [(a 0, .inr (3, [.ref (a 1), .int (χ 0 0), .int (χ 0 1), .int (χ 0 2), .int (χ 0 3), .int (χ 0 4)])), (a 1, .inl (g.2.1, 60, .inl (χ 1)))]
def wHi (g : Gl) (a : Nat → Nat) (c : Nat → Nat → Nat) (h : Row) (η : Nat → Blk) : va_W := (a 0, .inr (2, [.ref (a 1), .int (h 0), .int (h 1)])) :: (a 1, .inl (g.2.2.2, 5, .inr (.inr (.inr (.inr (fun j => some (c j 0))))))) :: (wSt g (c 0) (η 0) ++ (wSt g (c 1) (η 1) ++ (wSt g (c 2) (η 2) ++ (wSt g (c 3) (η 3) ++ wSt g (c 4) (η 4)))))
def wHS (g : Gl) (b : Nat → Nat → Nat) (hs : Int32) (n0 n1 n2 : Blk) (h : Row) (η : Nat → Blk) (δ : Row) (χ : Blk) : va_W := (b 11 0, .inr (5, [.ref (b 0 0), .ref (b 1 0), .ref (b 2 0), .ref (b 8 0), .ref (b 9 0), .ref (b 10 0), .int hs])) :: (wSt g (b 0) n0 ++ (wSt g (b 1) n1 ++ (wSt g (b 2) n2 ++ (wHi g (b 8) (fun j => b (j + 3)) h η ++ (wCl g (b 9) δ ++ wSc g (b 10) χ)))))
section ROWS
variable {x : Ctx} {own : String} {cc : ByteArray} {nl fr lo : Nat} {w w' : va_W} {L : List (Nat × Value)} {st : List Value} {pc : Nat}
/-- a call of a method with a contract, from what the machine says of its run -/
theorem v_run (X : Cx x own cc nl fr lo) {wc wc' : va_W} {r : Option Value} {rest st0 : List Value} {aa : Array Value} (F : Fr w wc wc' w')
    (hr : ∀ (H : Heap) (locs : List Loc) (ls : Array Slot), va_P x.g.1 vwCl wc H → va_P x.g.1 vwCl w H → va_D (fun _ => True) wc → lv_has ls x.nL L → va_Run x.p x.l x.e x.R x.s x.m x.args x.below x.meth x.c H locs x.cells x.slots 0 0 (F0 x.m pc ls st0) rest (Qf x.g (va_A wc H.size) r wc' aa) (va_A wc H.size))
    (kk : V x w' L (r.toList ++ rest) (pc + 3)) : V x w L st0 pc := by
  intro H locs ls hP hD hS hl T hT X0
  have hPc := F.P hP
  have hDc := F.D hD
  have hFc := F.free hD hS X.2.2.2.2.2.2.2.1
  obtain ⟨v, st₀, t, T', Lc, h0, X', hL, e1, e2, ⟨⟨hv, hP1, hD1⟩, hz, hk⟩, stp⟩ := hr H locs ls hPc hP (hDc.weaken (fun _ _ _ _ => trivial)) hl T hT X0
  have hvr : v = r := Outcome.returned.inj hv
  subst hvr
  rw [h0] at hz hk
  have hS' : va_S x.A x.s.heap T'.heap (locs ++ Lc) := ⟨Nat.le_trans hS.1 (by rw [e1]; exact hz), fun q h1 h2 => by rw [e1, hk q (Nat.lt_of_lt_of_le h1 hS.1) (fun z => h2 (hFc q z))]; exact hS.2.1 q h1 h2, fun q hq => by
      rcases List.mem_append.mp hq with h | h
      · exact hS.2.2 q h
      · exact hFc _ (hL q h)⟩
  obtain ⟨t2, a1, b1⟩ := kk T'.heap (locs ++ Lc) ls (F.P' hP hD (fun q h1 h2 => by rw [e1]; exact hk q h1 h2) (by rw [e1]; exact hP1)) (F.D' hD) hS' hl T' rfl X'
  exact ⟨t2, stp t2 a1, b1⟩
/-- what the tables say of a callee: by its link in the caller's class -/
def CwB (y : MethodName) (cc' : ByteArray) (maxL' : Nat) (ret' : Option FieldType) (n : Nat) : Prop :=
  Cond.code y cc' maxL' ret' ∈ lw_all ∧ Cond.initialized y.cls ∈ lw_all ∧ y.cls ≠ "java/lang/invoke/MethodHandle" ∧ y.cls ≠ "java/lang/invoke/VarHandle" ∧ (parseMethodDescriptor y.desc).map (fun d => d.parameters.length) = some n
theorem CwB.B (X : Cx x own cc nl fr lo) {y : MethodName} {cc' : ByteArray} {maxL' : Nat} {ret' : Option FieldType} {n : Nat} (c : CwB y cc' maxL' ret' n) {index fr' lo' : Nat} (hl : Cond.methodLink own index y ∈ lw_all) (h1 : fr' + 1 ≤ fr) (h2 : 8 + (maxL' + 11) + lo' ≤ lo) :
    CallB x.R x.s x.args own index y cc' maxL' ret' (Cond.code y cc' maxL' ret' :: lw_all) ({ frames := fr', cells := 0, slots := 0, locals := lo' } : Room) 0 0 n :=
  callB_of n (Ts := lw_all) X.2.2.2.2.1 (fun w h => by rcases List.mem_cons.mp h with rfl | h; exact ⟨c.1, gw c.1⟩; exact ⟨h, gw h⟩) rfl rfl rfl (X.2.2.2.2.1 _ c.2.1) (X.2.2.2.2.1 _ hl) c.2.2 ⟨Nat.le_trans h1 X.2.2.2.2.2.2.2.2.1, Nat.le_trans h2 X.2.2.2.2.2.2.2.2.2.1⟩
theorem CwB.N (X : Cx x own cc nl fr lo) {y : MethodName} {cc' : ByteArray} {maxL' : Nat} {ret' : Option FieldType} {n : Nat} (c : CwB y cc' maxL' ret' n) {index fr' lo' : Nat} {host : String} (hl : Cond.methodLinkNest own index y host ∈ lw_nst) (h1 : fr' + 1 ≤ fr) (h2 : 8 + (maxL' + 11) + lo' ≤ lo) :
    va_CN x.R x.s x.args own index y host cc' maxL' ret' (Cond.code y cc' maxL' ret' :: lw_all) ({ frames := fr', cells := 0, slots := 0, locals := lo' } : Room) 0 0 n :=
  va_cnB n (Ts := lw_all) X.2.2.2.2.1 (fun w h => by rcases List.mem_cons.mp h with rfl | h; exact ⟨c.1, gw c.1⟩; exact ⟨h, gw h⟩) rfl rfl rfl (X.2.2.2.2.2.1 _ hl) (X.2.2.2.2.1 _ c.2.1) c.2.2 ⟨Nat.le_trans h1 X.2.2.2.2.2.2.2.2.1, Nat.le_trans h2 X.2.2.2.2.2.2.2.2.2.1⟩
theorem v_pre (X : Cx x own cc nl fr lo) {wc : va_W} {av : List Value} {H : Heap} (hPc : va_P x.g.1 vwCl wc H) (hDc : va_D (fun _ => True) wc) : ∀ U : State, U.heap = H → x.s.WarmedH U.vm → va_Pc av (Pq x.g wc H.size) av.toArray U :=
  fun U hU hW => ⟨rfl, by rw [hU], by rw [hU]; exact hPc, va_K.moved hW.alike X.2.2.2.2.2.2.1, hDc, nst_moved hW X.2.2.2.2.2.1⟩
theorem v_callV (X : Cx x own cc nl fr lo) {y : MethodName} {cc' : ByteArray} {maxL' : Nat} {ret' : Option FieldType} {n index fr' lo' b : Nat} {wc wc' : va_W} {r : Option Value}
    {st0 st1 : List Value} (As rest : List Value) (hM : Ok x.l x.g y cc' maxL' ret' fr' lo' (.ref b :: As) wc r wc') (h0 : st0 = As.reverse ++ .ref b :: rest) (h1 : r.toList ++ rest = st1) (c : CwB y cc' maxL' ret' n) (hl : Cond.methodLink own index y ∈ lw_all) (hi : Cond.instanceMethod y ∈ lw_all) (hs : Cond.selects y.cls y y ∈ lw_all)
    (hR : fr' + 1 ≤ fr ∧ 8 + (maxL' + 11) + lo' ≤ lo) (q0 ci : Nat) {fs : List Value} (he : w[q0]? = some (b, .inr (ci, fs))) {cq : vw_C} (hc : vwCl[ci]? = some cq) (hcq : cq.1 = y.cls) (F : Fr w wc wc' w') (hn : As.length = n) (hst : (rest.map fun v => v.category).sum ≤ 8) (d : decode cc pc = .ok (.invokevirtual index, 3))
    (kk : V x w' L st1 (pc + 3)) : V x w L st0 pc := by
  subst h0; subst h1
  refine v_run X (aa := (Value.ref b :: As).toArray) F (fun H locs ls hPc hP hDc hlv => ?_) kk
  exact va_runV (As := As) (rest := rest) ⟨X.1, X.2.1, rfl, X.2.2.2.1, X.2.2.2.2.1⟩ (hM H.size) ⟨c.B X hl hR.1 hR.2, X.2.2.2.2.1 _ hi, X.2.2.2.2.1 _ hs⟩
    ⟨Pq.blind, by rw [← hcq]; exact va_recv X.2.2.2.2.2.2.1 hP hc he, v_pre X hPc hDc⟩ rfl hn (hlv.1.trans X.2.2.1.symm) rfl (lv_room hst) d ⟨X.2.2.2.2.2.2.2.2.2.2.1, X.2.2.2.2.2.2.2.2.2.2.2.1⟩
theorem v_callVN (X : Cx x own cc nl fr lo) {y : MethodName} {cc' : ByteArray} {maxL' : Nat} {ret' : Option FieldType} {n index fr' lo' b : Nat} {host : String} {wc wc' : va_W} {r : Option Value}
    {st0 st1 : List Value} (As rest : List Value) (hM : Ok x.l x.g y cc' maxL' ret' fr' lo' (.ref b :: As) wc r wc') (h0 : st0 = As.reverse ++ .ref b :: rest) (h1 : r.toList ++ rest = st1) (c : CwB y cc' maxL' ret' n) (hl : Cond.methodLinkNest own index y host ∈ lw_nst) (hi : Cond.instanceMethod y ∈ lw_all) (hs : Cond.selects y.cls y y ∈ lw_all)
    (hR : fr' + 1 ≤ fr ∧ 8 + (maxL' + 11) + lo' ≤ lo) (q0 ci : Nat) {fs : List Value} (he : w[q0]? = some (b, .inr (ci, fs))) {cq : vw_C} (hc : vwCl[ci]? = some cq) (hcq : cq.1 = y.cls) (F : Fr w wc wc' w') (hn : As.length = n) (hst : (rest.map fun v => v.category).sum ≤ 8) (d : decode cc pc = .ok (.invokevirtual index, 3))
    (kk : V x w' L st1 (pc + 3)) : V x w L st0 pc := by
  subst h0; subst h1
  refine v_run X (aa := (Value.ref b :: As).toArray) F (fun H locs ls hPc hP hDc hlv => ?_) kk
  exact va_runVN (C := y.cls) (As := As) (rest := rest) ⟨X.1, X.2.1, rfl, X.2.2.2.1, X.2.2.2.2.1⟩ (hM H.size) ⟨c.N X hl hR.1 hR.2, X.2.2.2.2.1 _ hi, X.2.2.2.2.1 _ hs⟩
    ⟨Pq.blind, by rw [← hcq]; exact va_recv X.2.2.2.2.2.2.1 hP hc he, v_pre X hPc hDc⟩ rfl hn (hlv.1.trans X.2.2.1.symm) rfl (lv_room hst) d ⟨X.2.2.2.2.2.2.2.2.2.2.1, X.2.2.2.2.2.2.2.2.2.2.2.1⟩
theorem v_callS (X : Cx x own cc nl fr lo) {y : MethodName} {cc' : ByteArray} {maxL' : Nat} {ret' : Option FieldType} {n index fr' lo' : Nat} {wc wc' : va_W} {r : Option Value}
    {st0 st1 : List Value} (As rest : List Value) (hM : Ok x.l x.g y cc' maxL' ret' fr' lo' As wc r wc') (h0 : st0 = As.reverse ++ rest) (h1 : r.toList ++ rest = st1) (c : CwB y cc' maxL' ret' n) (hl : Cond.methodLink own index y ∈ lw_all) (hs : Cond.static y ∈ lw_all)
    (hR : fr' + 1 ≤ fr ∧ 8 + (maxL' + 11) + lo' ≤ lo) (F : Fr w wc wc' w') (hn : As.length = n) (hst : (rest.map fun v => v.category).sum ≤ 8) (d : decode cc pc = .ok (.invokestatic index, 3))
    (kk : V x w' L st1 (pc + 3)) : V x w L st0 pc := by
  subst h0; subst h1
  refine v_run X (aa := As.toArray) F (fun H locs ls hPc hP hDc hlv => ?_) kk
  exact va_runS (As := As) (rest := rest) ⟨X.1, X.2.1, rfl, X.2.2.2.1, X.2.2.2.2.1⟩ (hM H.size) ⟨c.B X hl hR.1 hR.2, X.2.2.2.2.1 _ hs⟩
    ⟨Pq.blind, v_pre X hPc hDc⟩ rfl hn (hlv.1.trans X.2.2.1.symm) rfl (lv_room hst) d ⟨X.2.2.2.2.2.2.2.2.2.2.1, X.2.2.2.2.2.2.2.2.2.2.2.1⟩
theorem v_callSN (X : Cx x own cc nl fr lo) {y : MethodName} {cc' : ByteArray} {maxL' : Nat} {ret' : Option FieldType} {n index fr' lo' : Nat} {host : String} {wc wc' : va_W} {r : Option Value}
    {st0 st1 : List Value} (As rest : List Value) (hM : Ok x.l x.g y cc' maxL' ret' fr' lo' As wc r wc') (h0 : st0 = As.reverse ++ rest) (h1 : r.toList ++ rest = st1) (c : CwB y cc' maxL' ret' n) (hl : Cond.methodLinkNest own index y host ∈ lw_nst) (hs : Cond.static y ∈ lw_all)
    (hR : fr' + 1 ≤ fr ∧ 8 + (maxL' + 11) + lo' ≤ lo) (F : Fr w wc wc' w') (hn : As.length = n) (hst : (rest.map fun v => v.category).sum ≤ 8) (d : decode cc pc = .ok (.invokestatic index, 3))
    (kk : V x w' L st1 (pc + 3)) : V x w L st0 pc := by
  subst h0; subst h1
  refine v_run X (aa := As.toArray) F (fun H locs ls hPc hP hDc hlv => ?_) kk
  exact va_runSN (As := As) (rest := rest) ⟨X.1, X.2.1, rfl, X.2.2.2.1, X.2.2.2.2.1⟩ (hM H.size) ⟨c.N X hl hR.1 hR.2, X.2.2.2.2.1 _ hs, trivial⟩
    ⟨Pq.blind, v_pre X hPc hDc⟩ rfl hn (hlv.1.trans X.2.2.1.symm) rfl (lv_room hst) d ⟨X.2.2.2.2.2.2.2.2.2.2.1, X.2.2.2.2.2.2.2.2.2.2.2.1⟩

theorem v_iconst (X : Cx x own cc nl fr lo) {n : Int} {v : Int32} (d : decode cc pc = .ok (.iconst n, 1)) (hv : Int32.ofInt n = v) (kk : V x w L (.int v :: st) (pc + 1)) : V x w L (st) pc := fun H locs ls hP hD hS hl => lv_iconst X.1 X.2.1 d hv (kk H locs ls hP hD hS hl)
theorem v_bipush (X : Cx x own cc nl fr lo) {n : Int} {v : Int32} (d : decode cc pc = .ok (.bipush n, 2)) (hv : (Int8.ofInt n).toInt32 = v) (kk : V x w L (.int v :: st) (pc + 2)) : V x w L (st) pc := fun H locs ls hP hD hS hl => lv_bipush X.1 X.2.1 d hv (kk H locs ls hP hD hS hl)
theorem v_sipush (X : Cx x own cc nl fr lo) {n : Int} {v : Int32} (d : decode cc pc = .ok (.sipush n, 3)) (hv : (Int16.ofInt n).toInt32 = v) (kk : V x w L (.int v :: st) (pc + 3)) : V x w L (st) pc := fun H locs ls hP hD hS hl => lv_sipush X.1 X.2.1 d hv (kk H locs ls hP hD hS hl)
theorem v_iload_n (X : Cx x own cc nl fr lo) {k : Fin 4} {i : Nat} {v : Int32} (d : decode cc pc = .ok (.iload_n k, 1)) (hi : (k : Nat) = i) (j : Nat) (hj : L[j]? = some (i, .int v)) (kk : V x w L (.int v :: st) (pc + 1)) : V x w L (st) pc := fun H locs ls hP hD hS hl => lv_iload_n X.1 X.2.1 d hi (lv_at hl j hj) (kk H locs ls hP hD hS hl)
theorem v_iload (X : Cx x own cc nl fr lo) {i : Nat} {v : Int32} (d : decode cc pc = .ok (.iload i, 2)) (j : Nat) (hj : L[j]? = some (i, .int v)) (kk : V x w L (.int v :: st) (pc + 2)) : V x w L (st) pc := fun H locs ls hP hD hS hl => lv_iload X.1 X.2.1 d (lv_at hl j hj) (kk H locs ls hP hD hS hl)
theorem v_aload_n (X : Cx x own cc nl fr lo) {k : Fin 4} {i : Nat} {v : Nat} (d : decode cc pc = .ok (.aload_n k, 1)) (hi : (k : Nat) = i) (j : Nat) (hj : L[j]? = some (i, .ref v)) (kk : V x w L (.ref v :: st) (pc + 1)) : V x w L (st) pc := fun H locs ls hP hD hS hl => lv_aload_n X.1 X.2.1 d hi (lv_at hl j hj) (kk H locs ls hP hD hS hl)
theorem v_aload (X : Cx x own cc nl fr lo) {i : Nat} {v : Nat} (d : decode cc pc = .ok (.aload i, 2)) (j : Nat) (hj : L[j]? = some (i, .ref v)) (kk : V x w L (.ref v :: st) (pc + 2)) : V x w L (st) pc := fun H locs ls hP hD hS hl => lv_aload X.1 X.2.1 d (lv_at hl j hj) (kk H locs ls hP hD hS hl)
theorem v_iadd (X : Cx x own cc nl fr lo) {a b : Int32} (d : decode cc pc = .ok (.iadd, 1)) (kk : V x w L (.int (a + b) :: st) (pc + 1)) : V x w L (.int b :: .int a :: st) pc := fun H locs ls hP hD hS hl => lv_iadd X.1 X.2.1 d (kk H locs ls hP hD hS hl)
theorem v_isub (X : Cx x own cc nl fr lo) {a b : Int32} (d : decode cc pc = .ok (.isub, 1)) (kk : V x w L (.int (a - b) :: st) (pc + 1)) : V x w L (.int b :: .int a :: st) pc := fun H locs ls hP hD hS hl => lv_isub X.1 X.2.1 d (kk H locs ls hP hD hS hl)
theorem v_imul (X : Cx x own cc nl fr lo) {a b : Int32} (d : decode cc pc = .ok (.imul, 1)) (kk : V x w L (.int (a * b) :: st) (pc + 1)) : V x w L (.int b :: .int a :: st) pc := fun H locs ls hP hD hS hl => lv_imul X.1 X.2.1 d (kk H locs ls hP hD hS hl)
theorem v_iand (X : Cx x own cc nl fr lo) {a b : Int32} (d : decode cc pc = .ok (.iand, 1)) (kk : V x w L (.int (a &&& b) :: st) (pc + 1)) : V x w L (.int b :: .int a :: st) pc := fun H locs ls hP hD hS hl => lv_iand X.1 X.2.1 d (kk H locs ls hP hD hS hl)
theorem v_ior (X : Cx x own cc nl fr lo) {a b : Int32} (d : decode cc pc = .ok (.ior, 1)) (kk : V x w L (.int (a ||| b) :: st) (pc + 1)) : V x w L (.int b :: .int a :: st) pc := fun H locs ls hP hD hS hl => lv_ior X.1 X.2.1 d (kk H locs ls hP hD hS hl)
theorem v_ineg (X : Cx x own cc nl fr lo) {a : Int32} (d : decode cc pc = .ok (.ineg, 1)) (kk : V x w L (.int (-a) :: st) (pc + 1)) : V x w L (.int a :: st) pc := fun H locs ls hP hD hS hl => lv_ineg X.1 X.2.1 d (kk H locs ls hP hD hS hl)
theorem v_idiv (X : Cx x own cc nl fr lo) {a b : Int32} (d : decode cc pc = .ok (.idiv, 1)) (hne : ¬ b = 0) (kk : V x w L (.int (a / b) :: st) (pc + 1)) : V x w L (.int b :: .int a :: st) pc := fun H locs ls hP hD hS hl => lv_idiv X.1 X.2.1 d hne (kk H locs ls hP hD hS hl)
theorem v_irem (X : Cx x own cc nl fr lo) {a b : Int32} (d : decode cc pc = .ok (.irem, 1)) (hne : ¬ b = 0) (kk : V x w L (.int (a - a / b * b) :: st) (pc + 1)) : V x w L (.int b :: .int a :: st) pc := fun H locs ls hP hD hS hl => lv_irem X.1 X.2.1 d hne (kk H locs ls hP hD hS hl)
theorem v_i2c (X : Cx x own cc nl fr lo) {a v : Int32} (d : decode cc pc = .ok (.i2c, 1)) (hv : (a.toUInt32 % 65536).toInt32 = v) (kk : V x w L (.int v :: st) (pc + 1)) : V x w L (.int a :: st) pc := fun H locs ls hP hD hS hl => lv_i2c X.1 X.2.1 d hv (kk H locs ls hP hD hS hl)
theorem v_dup (X : Cx x own cc nl fr lo) {a : Value} (d : decode cc pc = .ok (.dup, 1)) (hc : a.category = 1) (kk : V x w L (a :: a :: st) (pc + 1)) : V x w L (a :: st) pc := fun H locs ls hP hD hS hl => lv_dup X.1 X.2.1 d hc (kk H locs ls hP hD hS hl)
theorem v_pop (X : Cx x own cc nl fr lo) {a : Value} (d : decode cc pc = .ok (.pop, 1)) (hc : a.category = 1) (kk : V x w L (st) (pc + 1)) : V x w L (a :: st) pc := fun H locs ls hP hD hS hl => lv_pop X.1 X.2.1 d hc (kk H locs ls hP hD hS hl)
theorem v_dup2 (X : Cx x own cc nl fr lo) {a b : Value} (d : decode cc pc = .ok (.dup2, 1)) (hc : a.category = 1) (hc2 : b.category = 1) (kk : V x w L (a :: b :: a :: b :: st) (pc + 1)) : V x w L (a :: b :: st) pc := fun H locs ls hP hD hS hl => lv_dup2_11 X.1 X.2.1 d hc hc2 (kk H locs ls hP hD hS hl)
theorem v_ldc (X : Cx x own cc nl fr lo) {index : Nat} {v : Int32} (hw : Cond.constant own index v ∈ lw_all) (d : decode cc pc = .ok (.ldc index, 2)) (kk : V x w L (.int v :: st) (pc + 2)) : V x w L (st) pc := fun H locs ls hP hD hS hl => lv_ldc X.1 X.2.1 X.2.2.2.1 (X.2.2.2.2.1 _ hw) d (kk H locs ls hP hD hS hl)
theorem v_ifnull (X : Cx x own cc nl fr lo) {a : Nat} {off : Int} (d : decode cc pc = .ok (.ifnull off, 3)) (kk : V x w L (st) (pc + 3)) : V x w L (.ref a :: st) pc := fun H locs ls hP hD hS hl => lv_ifnull X.1 X.2.1 d (kk H locs ls hP hD hS hl)
theorem v_istore_n (X : Cx x own cc nl fr lo) {k : Fin 4} {i : Nat} {v : Int32} {L2 : List (Nat × Value)} (d : decode cc pc = .ok (.istore_n k, 1)) (hi : (k : Nat) = i) (hn : i < nl) (hL : (i, Value.int v) :: L.filter (fun q => !(q.1 == i) && !(q.1 + 1 == i && q.2.category == 2)) = L2) (kk : V x w L2 st (pc + 1)) : V x w L (.int v :: st) pc := fun H locs ls hP hD hS hl => lv_istore_n X.1 X.2.1 d hi hl (by rw [X.2.2.2.2.2.2.2.2.2.2.2.2]; exact hn) hL (fun ls2 hl2 => kk H locs ls2 hP hD hS hl2)
theorem v_istore (X : Cx x own cc nl fr lo) {i : Nat} {v : Int32} {L2 : List (Nat × Value)} (d : decode cc pc = .ok (.istore i, 2)) (hn : i < nl) (hL : (i, Value.int v) :: L.filter (fun q => !(q.1 == i) && !(q.1 + 1 == i && q.2.category == 2)) = L2) (kk : V x w L2 st (pc + 2)) : V x w L (.int v :: st) pc := fun H locs ls hP hD hS hl => lv_istore X.1 X.2.1 d hl (by rw [X.2.2.2.2.2.2.2.2.2.2.2.2]; exact hn) hL (fun ls2 hl2 => kk H locs ls2 hP hD hS hl2)
theorem v_astore_n (X : Cx x own cc nl fr lo) {k : Fin 4} {i : Nat} {v : Nat} {L2 : List (Nat × Value)} (d : decode cc pc = .ok (.astore_n k, 1)) (hi : (k : Nat) = i) (hn : i < nl) (hL : (i, Value.ref v) :: L.filter (fun q => !(q.1 == i) && !(q.1 + 1 == i && q.2.category == 2)) = L2) (kk : V x w L2 st (pc + 1)) : V x w L (.ref v :: st) pc := fun H locs ls hP hD hS hl => lv_astore_n X.1 X.2.1 d hi hl (by rw [X.2.2.2.2.2.2.2.2.2.2.2.2]; exact hn) hL (fun ls2 hl2 => kk H locs ls2 hP hD hS hl2)
theorem v_astore (X : Cx x own cc nl fr lo) {i : Nat} {v : Nat} {L2 : List (Nat × Value)} (d : decode cc pc = .ok (.astore i, 2)) (hn : i < nl) (hL : (i, Value.ref v) :: L.filter (fun q => !(q.1 == i) && !(q.1 + 1 == i && q.2.category == 2)) = L2) (kk : V x w L2 st (pc + 2)) : V x w L (.ref v :: st) pc := fun H locs ls hP hD hS hl => lv_astore X.1 X.2.1 d hl (by rw [X.2.2.2.2.2.2.2.2.2.2.2.2]; exact hn) hL (fun ls2 hl2 => kk H locs ls2 hP hD hS hl2)
theorem v_iinc (X : Cx x own cc nl fr lo) {i : Nat} {n : Int} {u v : Int32} {L2 : List (Nat × Value)} (d : decode cc pc = .ok (.iinc i n, 3)) (j : Nat) (hj : L[j]? = some (i, .int u)) (hv : u + Int32.ofInt n = v) (hn : i < nl) (hL : (i, Value.int v) :: L.filter (fun q => !(q.1 == i) && !(q.1 + 1 == i && q.2.category == 2)) = L2) (kk : V x w L2 st (pc + 3)) : V x w L st pc := fun H locs ls hP hD hS hl => lv_iinc X.1 X.2.1 d hl hj hv (by rw [X.2.2.2.2.2.2.2.2.2.2.2.2]; exact hn) hL (fun ls2 hl2 => kk H locs ls2 hP hD hS hl2)
theorem v_ifeq (X : Cx x own cc nl fr lo) {a : Int32} {off : Int} {tgt : Nat} (d : decode cc pc = .ok (.ifCond .eq off, 3)) (ht : (pc : Int) + off = (tgt : Int)) (kt : a = 0 → V x w L st tgt) (kf : ¬ a = 0 → V x w L st (pc + 3)) : V x w L (.int a :: st) pc := fun H locs ls hP hD hS hl => lv_if_eq X.1 X.2.1 d ht (fun c => kt c H locs ls hP hD hS hl) (fun c => kf c H locs ls hP hD hS hl)
theorem v_ifne (X : Cx x own cc nl fr lo) {a : Int32} {off : Int} {tgt : Nat} (d : decode cc pc = .ok (.ifCond .ne off, 3)) (ht : (pc : Int) + off = (tgt : Int)) (kt : ¬ a = 0 → V x w L st tgt) (kf : a = 0 → V x w L st (pc + 3)) : V x w L (.int a :: st) pc := fun H locs ls hP hD hS hl => lv_if_ne X.1 X.2.1 d ht (fun c => kt c H locs ls hP hD hS hl) (fun c => kf c H locs ls hP hD hS hl)
theorem v_iflt (X : Cx x own cc nl fr lo) {a : Int32} {off : Int} {tgt : Nat} (d : decode cc pc = .ok (.ifCond .lt off, 3)) (ht : (pc : Int) + off = (tgt : Int)) (kt : a < 0 → V x w L st tgt) (kf : ¬ a < 0 → V x w L st (pc + 3)) : V x w L (.int a :: st) pc := fun H locs ls hP hD hS hl => lv_if_lt X.1 X.2.1 d ht (fun c => kt c H locs ls hP hD hS hl) (fun c => kf c H locs ls hP hD hS hl)
theorem v_ifge (X : Cx x own cc nl fr lo) {a : Int32} {off : Int} {tgt : Nat} (d : decode cc pc = .ok (.ifCond .ge off, 3)) (ht : (pc : Int) + off = (tgt : Int)) (kt : 0 ≤ a → V x w L st tgt) (kf : ¬ 0 ≤ a → V x w L st (pc + 3)) : V x w L (.int a :: st) pc := fun H locs ls hP hD hS hl => lv_if_ge X.1 X.2.1 d ht (fun c => kt c H locs ls hP hD hS hl) (fun c => kf c H locs ls hP hD hS hl)
theorem v_ifgt (X : Cx x own cc nl fr lo) {a : Int32} {off : Int} {tgt : Nat} (d : decode cc pc = .ok (.ifCond .gt off, 3)) (ht : (pc : Int) + off = (tgt : Int)) (kt : 0 < a → V x w L st tgt) (kf : ¬ 0 < a → V x w L st (pc + 3)) : V x w L (.int a :: st) pc := fun H locs ls hP hD hS hl => lv_if_gt X.1 X.2.1 d ht (fun c => kt c H locs ls hP hD hS hl) (fun c => kf c H locs ls hP hD hS hl)
theorem v_ifle (X : Cx x own cc nl fr lo) {a : Int32} {off : Int} {tgt : Nat} (d : decode cc pc = .ok (.ifCond .le off, 3)) (ht : (pc : Int) + off = (tgt : Int)) (kt : a ≤ 0 → V x w L st tgt) (kf : ¬ a ≤ 0 → V x w L st (pc + 3)) : V x w L (.int a :: st) pc := fun H locs ls hP hD hS hl => lv_if_le X.1 X.2.1 d ht (fun c => kt c H locs ls hP hD hS hl) (fun c => kf c H locs ls hP hD hS hl)
theorem v_icmpeq (X : Cx x own cc nl fr lo) {a b : Int32} {off : Int} {tgt : Nat} (d : decode cc pc = .ok (.if_icmp .eq off, 3)) (ht : (pc : Int) + off = (tgt : Int)) (kt : a = b → V x w L st tgt) (kf : ¬ a = b → V x w L st (pc + 3)) : V x w L (.int b :: .int a :: st) pc := fun H locs ls hP hD hS hl => lv_icmp_eq X.1 X.2.1 d ht (fun c => kt c H locs ls hP hD hS hl) (fun c => kf c H locs ls hP hD hS hl)
theorem v_icmpne (X : Cx x own cc nl fr lo) {a b : Int32} {off : Int} {tgt : Nat} (d : decode cc pc = .ok (.if_icmp .ne off, 3)) (ht : (pc : Int) + off = (tgt : Int)) (kt : ¬ a = b → V x w L st tgt) (kf : a = b → V x w L st (pc + 3)) : V x w L (.int b :: .int a :: st) pc := fun H locs ls hP hD hS hl => lv_icmp_ne X.1 X.2.1 d ht (fun c => kt c H locs ls hP hD hS hl) (fun c => kf c H locs ls hP hD hS hl)
theorem v_icmplt (X : Cx x own cc nl fr lo) {a b : Int32} {off : Int} {tgt : Nat} (d : decode cc pc = .ok (.if_icmp .lt off, 3)) (ht : (pc : Int) + off = (tgt : Int)) (kt : a < b → V x w L st tgt) (kf : ¬ a < b → V x w L st (pc + 3)) : V x w L (.int b :: .int a :: st) pc := fun H locs ls hP hD hS hl => lv_icmp_lt X.1 X.2.1 d ht (fun c => kt c H locs ls hP hD hS hl) (fun c => kf c H locs ls hP hD hS hl)
theorem v_icmpge (X : Cx x own cc nl fr lo) {a b : Int32} {off : Int} {tgt : Nat} (d : decode cc pc = .ok (.if_icmp .ge off, 3)) (ht : (pc : Int) + off = (tgt : Int)) (kt : b ≤ a → V x w L st tgt) (kf : ¬ b ≤ a → V x w L st (pc + 3)) : V x w L (.int b :: .int a :: st) pc := fun H locs ls hP hD hS hl => lv_icmp_ge X.1 X.2.1 d ht (fun c => kt c H locs ls hP hD hS hl) (fun c => kf c H locs ls hP hD hS hl)
theorem v_icmpgt (X : Cx x own cc nl fr lo) {a b : Int32} {off : Int} {tgt : Nat} (d : decode cc pc = .ok (.if_icmp .gt off, 3)) (ht : (pc : Int) + off = (tgt : Int)) (kt : b < a → V x w L st tgt) (kf : ¬ b < a → V x w L st (pc + 3)) : V x w L (.int b :: .int a :: st) pc := fun H locs ls hP hD hS hl => lv_icmp_gt X.1 X.2.1 d ht (fun c => kt c H locs ls hP hD hS hl) (fun c => kf c H locs ls hP hD hS hl)
theorem v_icmple (X : Cx x own cc nl fr lo) {a b : Int32} {off : Int} {tgt : Nat} (d : decode cc pc = .ok (.if_icmp .le off, 3)) (ht : (pc : Int) + off = (tgt : Int)) (kt : a ≤ b → V x w L st tgt) (kf : ¬ a ≤ b → V x w L st (pc + 3)) : V x w L (.int b :: .int a :: st) pc := fun H locs ls hP hD hS hl => lv_icmp_le X.1 X.2.1 d ht (fun c => kt c H locs ls hP hD hS hl) (fun c => kf c H locs ls hP hD hS hl)
theorem b2i_0 {b : Bool} : b2i b = 0 ↔ b = false := by cases b <;> decide
theorem b2i_n0 {b : Bool} : ¬ b2i b = 0 ↔ b = true := by cases b <;> decide
theorem v_ifeqB (X : Cx x own cc nl fr lo) {b : Bool} {off : Int} {tgt : Nat} (d : decode cc pc = .ok (.ifCond .eq off, 3)) (ht : (pc : Int) + off = (tgt : Int)) (kt : b = false → V x w L st tgt) (kf : b = true → V x w L st (pc + 3)) : V x w L (.int (b2i b) :: st) pc := v_ifeq X d ht (fun c => kt (b2i_0.mp c)) (fun c => kf (b2i_n0.mp c))
theorem v_ifneB (X : Cx x own cc nl fr lo) {b : Bool} {off : Int} {tgt : Nat} (d : decode cc pc = .ok (.ifCond .ne off, 3)) (ht : (pc : Int) + off = (tgt : Int)) (kt : b = true → V x w L st tgt) (kf : b = false → V x w L st (pc + 3)) : V x w L (.int (b2i b) :: st) pc := v_ifne X d ht (fun c => kt (b2i_n0.mp c)) (fun c => kf (b2i_0.mp c))
theorem v_goto (X : Cx x own cc nl fr lo) {off : Int} {tgt : Nat} (d : decode cc pc = .ok (.goto off, 3)) (ht : (pc : Int) + off = (tgt : Int)) (kk : V x w L st tgt) : V x w L st pc := fun H locs ls hP hD hS hl => lv_goto X.1 X.2.1 d ht (kk H locs ls hP hD hS hl)
theorem v_tswIn (X : Cx x own cc nl fr lo) {dflt lo2 hi : Int} {offs : Array Int} {len : Nat} {a : Int32} {off : Int} {tgt : Nat} (d : decode cc pc = .ok (.tableswitch dflt lo2 hi offs, len)) (h1 : ¬ a.toInt < lo2) (h2 : ¬ hi < a.toInt) (ho : offs[(a.toInt - lo2).toNat]? = some off) (ht : (pc : Int) + off = (tgt : Int)) (kk : V x w L st tgt) : V x w L (.int a :: st) pc := fun H locs ls hP hD hS hl => lv_tableIn X.1 X.2.1 d h1 h2 ho ht (kk H locs ls hP hD hS hl)
theorem v_tswOut (X : Cx x own cc nl fr lo) {dflt lo2 hi : Int} {offs : Array Int} {len : Nat} {a : Int32} {tgt : Nat} (d : decode cc pc = .ok (.tableswitch dflt lo2 hi offs, len)) (h : a.toInt < lo2 ∨ hi < a.toInt) (ht : (pc : Int) + dflt = (tgt : Int)) (kk : V x w L st tgt) : V x w L (.int a :: st) pc := fun H locs ls hP hD hS hl => lv_tableOut X.1 X.2.1 d h ht (kk H locs ls hP hD hS hl)
theorem v_lsw (X : Cx x own cc nl fr lo) {dflt : Int} {ps : Array (Int × Int)} {len : Nat} {a : Int32} {off : Int} {tgt : Nat} (d : decode cc pc = .ok (.lookupswitch dflt ps, len)) (hp : (ps.toList.zip (ps.toList.drop 1)).all (fun (a, next) => a.1 < next.1) = true) (ho : Op.lookupswitch.offset ps.toList dflt a.toInt = off) (ht : (pc : Int) + off = (tgt : Int)) (kk : V x w L st tgt) : V x w L (.int a :: st) pc := fun H locs ls hP hD hS hl => lv_lookup X.1 X.2.1 d hp ho ht (kk H locs ls hP hD hS hl)
theorem v_get (X : Cx x own cc nl fr lo) {C ref : String} {T : u_T} {N ci index a : Nat} {fs : List Value} {v : Value} (hin : ∀ w ∈ u_ws C T N, w ∈ lw_all) (q0 : Nat) (he : w[q0]? = some (a, .inr (ci, fs))) (hc : vwCl[ci]? = some (C, T, N)) (k : Nat) (hk : k < N) (hlink : Cond.fieldLink own index ref (T k).2.1 (T k).2.2.1 ∈ lw_all) (hsame : (T k).1 = ref) (hv : fs[k]? = some v) (d : decode cc pc = .ok (.getfield index, 3)) (kk : V x w L (v :: st) (pc + 3)) : V x w L (.ref a :: st) pc := fun H locs ls hP hD hS hl => va_get X.1 X.2.1 X.2.2.2.2.1 hin X.2.2.2.1 X.2.2.2.2.2.2.1 hP q0 he hc k hk (X.2.2.2.2.1 _ hlink) (fun _ h => hsame ▸ h) hv d (kk H locs ls hP hD hS hl)
theorem v_getN (X : Cx x own cc nl fr lo) {host : String} {C ref : String} {T : u_T} {N ci index a : Nat} {fs : List Value} {v : Value} (hin : ∀ w ∈ u_ws C T N, w ∈ lw_all) (q0 : Nat) (he : w[q0]? = some (a, .inr (ci, fs))) (hc : vwCl[ci]? = some (C, T, N)) (k : Nat) (hk : k < N) (hlink : Cond.fieldLinkNest own index ref (T k).2.1 (T k).2.2.1 host ∈ lw_nst) (hsame : (T k).1 = ref) (hv : fs[k]? = some v) (d : decode cc pc = .ok (.getfield index, 3)) (kk : V x w L (v :: st) (pc + 3)) : V x w L (.ref a :: st) pc := fun H locs ls hP hD hS hl => va_getN X.1 X.2.1 X.2.2.2.2.1 hin X.2.2.2.1 X.2.2.2.2.2.2.1 hP q0 he hc k hk (va_Nw.use rfl (X.2.2.2.2.2.1 _ hlink)) (fun _ h => hsame ▸ h) hv d (kk H locs ls hP hD hS hl)
theorem v_put (X : Cx x own cc nl fr lo) {C ref : String} {T : u_T} {N ci index a : Nat} {fs : List Value} {v : Value} (hin : ∀ w ∈ u_ws C T N, w ∈ lw_all) (q0 : Nat) (he : w[q0]? = some (a, .inr (ci, fs))) (hc : vwCl[ci]? = some (C, T, N)) (k : Nat) (hk : k < N) (hlink : Cond.fieldLink own index ref (T k).2.1 (T k).2.2.1 ∈ lw_all) (hsame : (T k).1 = ref) (ty0 : Nat → FieldType) (hty : ∀ k, k < N → parseFieldDescriptor (T k).2.2.1 = some (ty0 k)) (hnm : ∀ a, a < N → ∀ b, b < N → a ≠ b → (T a).2.1 ≠ (T b).2.1) (hfin : (T k).2.2.2 = false) (hn : narrow (ty0 k) v = v) (hfit : fits (ty0 k) v = true) (hl0 : k < fs.length) (hw : w.set q0 (a, .inr (ci, fs.set k v)) = w') (d : decode cc pc = .ok (.putfield index, 3)) (kk : V x w' L st (pc + 3)) : V x w L (v :: .ref a :: st) pc := fun H locs ls hP hD hS hl => va_put X.1 X.2.1 X.2.2.2.2.1 hin ty0 hty hnm X.2.2.2.1 X.2.2.2.2.2.2.1 hP hD hS q0 he hc k hk (X.2.2.2.2.1 _ hlink) (fun _ h => hsame ▸ h) hfin (hty k hk) hn hfit hl0 d (fun H1 locs1 hP1 hD1 hS1 => kk H1 locs1 ls (hw ▸ hP1) (hw ▸ hD1) hS1 hl)
theorem v_putN (X : Cx x own cc nl fr lo) {host : String} {C ref : String} {T : u_T} {N ci index a : Nat} {fs : List Value} {v : Value} (hin : ∀ w ∈ u_ws C T N, w ∈ lw_all) (q0 : Nat) (he : w[q0]? = some (a, .inr (ci, fs))) (hc : vwCl[ci]? = some (C, T, N)) (k : Nat) (hk : k < N) (hlink : Cond.fieldLinkNest own index ref (T k).2.1 (T k).2.2.1 host ∈ lw_nst) (hsame : (T k).1 = ref) (ty0 : Nat → FieldType) (hty : ∀ k, k < N → parseFieldDescriptor (T k).2.2.1 = some (ty0 k)) (hnm : ∀ a, a < N → ∀ b, b < N → a ≠ b → (T a).2.1 ≠ (T b).2.1) (hfin : (T k).2.2.2 = false) (hn : narrow (ty0 k) v = v) (hfit : fits (ty0 k) v = true) (hl0 : k < fs.length) (hw : w.set q0 (a, .inr (ci, fs.set k v)) = w') (d : decode cc pc = .ok (.putfield index, 3)) (kk : V x w' L st (pc + 3)) : V x w L (v :: .ref a :: st) pc := fun H locs ls hP hD hS hl => va_putN X.1 X.2.1 X.2.2.2.2.1 hin ty0 hty hnm X.2.2.2.1 X.2.2.2.2.2.2.1 hP hD hS q0 he hc k hk (va_Nw.use rfl (X.2.2.2.2.2.1 _ hlink)) (fun _ h => hsame ▸ h) hfin (hty k hk) hn hfit hl0 d (fun H1 locs1 hP1 hD1 hS1 => kk H1 locs1 ls (hw ▸ hP1) (hw ▸ hD1) hS1 hl)
theorem v_iald (X : Cx x own cc nl fr lo) {a n : Nat} {f : Row} {i : Int32} (q0 : Nat) (ha : w[q0]? = some (a, .inl (x.g.2.1, n, .inl f))) (hin : vp_in i n) {v : Int32} (hv : f i.toNatClampNeg = v) (d : decode cc pc = .ok (.iaload, 1)) (kk : V x w L (.int v :: st) (pc + 1)) : V x w L (.int i :: .ref a :: st) pc := fun H locs ls hP hD hS hl => va_iald X.1 X.2.1 X.2.2.2.2.2.2.1 hP q0 0 ha rfl hin d (hv ▸ kk H locs ls hP hD hS hl)
theorem v_iast (X : Cx x own cc nl fr lo) {a n : Nat} {f : Row} {i v : Int32} (q0 : Nat) (ha : w[q0]? = some (a, .inl (x.g.2.1, n, .inl f))) (hin : vp_in i n) (hw : w.set q0 (a, .inl (x.g.2.1, n, .inl (upd f i.toNatClampNeg v))) = w') (d : decode cc pc = .ok (.iastore, 1)) (kk : V x w' L st (pc + 1)) : V x w L (.int v :: .int i :: .ref a :: st) pc := fun H locs ls hP hD hS hl => va_iast X.1 X.2.1 X.2.2.2.2.2.2.1 hP hD hS q0 0 ha rfl hin d (fun H1 locs1 hP1 hD1 hS1 => kk H1 locs1 ls (hw ▸ hP1) (hw ▸ hD1) hS1 hl)
theorem v_alen (X : Cx x own cc nl fr lo) {a n : Nat} {f : Row} (q0 : Nat) (ha : w[q0]? = some (a, .inl (x.g.2.1, n, .inl f))) (d : decode cc pc = .ok (.arraylength, 1)) (kk : V x w L (.int (nI n) :: st) (pc + 1)) : V x w L (.ref a :: st) pc := fun H locs ls hP hD hS hl => va_alen X.1 X.2.1 X.2.2.2.2.2.2.1 hP q0 0 ha (ty := .int) rfl rfl d (kk H locs ls hP hD hS hl)
theorem v_alenR (X : Cx x own cc nl fr lo) {a n : Nat} {f : Nat → Option Nat} (q0 : Nat) (ha : w[q0]? = some (a, .inl (x.g.2.2.2, n, .inr (.inr (.inr (.inr f)))))) (d : decode cc pc = .ok (.arraylength, 1)) (kk : V x w L (.int (nI n) :: st) (pc + 1)) : V x w L (.ref a :: st) pc := fun H locs ls hP hD hS hl => va_alen X.1 X.2.1 X.2.2.2.2.2.2.1 hP q0 1 ha (ty := .object RX4) rfl rfl d (kk H locs ls hP hD hS hl)
theorem v_aldq (X : Cx x own cc nl fr lo) {a n : Nat} {f : Nat → Option Nat} {i : Int32} (q0 : Nat) (ha : w[q0]? = some (a, .inl (x.g.2.2.2, n, .inr (.inr (.inr (.inr f)))))) (hin : vp_in i n) (d : decode cc pc = .ok (.aaload, 1)) (kk : V x w L (va_rf (f i.toNatClampNeg) :: st) (pc + 1)) : V x w L (.int i :: .ref a :: st) pc := fun H locs ls hP hD hS hl => va_aldq X.1 X.2.1 X.2.2.2.2.2.2.1 hP q0 1 ha rfl hin d (kk H locs ls hP hD hS hl)
theorem v_mmin (X : Cx x own cc nl fr lo) {index : Nat} {a b : Int32} (hl1 : Cond.methodLink own index Lib.Math.min.name ∈ lw_all) (hl2 : Cond.static Lib.Math.min.name ∈ lw_all) (hl3 : Cond.initialized "java/lang/Math" ∈ lw_all) (hl4 : Cond.code Lib.Math.min.name Lib.Math.min.code 2 (some .int) ∈ lw_all) (hR : 1 ≤ fr) (hR2 : (st.map fun v => v.category).sum + 13 ≤ lo) (d : decode cc pc = .ok (.invokestatic index, 3)) (kk : V x w L (.int (minF a b) :: st) (pc + 3)) : V x w L (.int b :: .int a :: st) pc := fun H locs ls hP hD hS hl => va_mmin X.1 X.2.1 (X.2.2.1.trans hl.1.symm) X.2.2.2.1 (X.2.2.2.2.1 _ hl1) (X.2.2.2.2.1 _ hl2) (X.2.2.2.2.1 _ hl3) (X.2.2.2.2.1 _ hl4) (Nat.le_trans hR X.2.2.2.2.2.2.2.2.1) (Nat.le_trans hR2 X.2.2.2.2.2.2.2.2.2.1) X.2.2.2.2.2.2.2.2.2.2.1 X.2.2.2.2.2.2.2.2.2.2.2.1 d (kk H locs ls hP hD hS hl)
theorem v_mmax (X : Cx x own cc nl fr lo) {index : Nat} {a b : Int32} (hl1 : Cond.methodLink own index Lib.Math.max.name ∈ lw_all) (hl2 : Cond.static Lib.Math.max.name ∈ lw_all) (hl3 : Cond.initialized "java/lang/Math" ∈ lw_all) (hl4 : Cond.code Lib.Math.max.name Lib.Math.max.code 2 (some .int) ∈ lw_all) (hR : 1 ≤ fr) (hR2 : (st.map fun v => v.category).sum + 13 ≤ lo) (d : decode cc pc = .ok (.invokestatic index, 3)) (kk : V x w L (.int (maxF a b) :: st) (pc + 3)) : V x w L (.int b :: .int a :: st) pc := fun H locs ls hP hD hS hl => va_mmax X.1 X.2.1 (X.2.2.1.trans hl.1.symm) X.2.2.2.1 (X.2.2.2.2.1 _ hl1) (X.2.2.2.2.1 _ hl2) (X.2.2.2.2.1 _ hl3) (X.2.2.2.2.1 _ hl4) (Nat.le_trans hR X.2.2.2.2.2.2.2.2.1) (Nat.le_trans hR2 X.2.2.2.2.2.2.2.2.2.1) X.2.2.2.2.2.2.2.2.2.2.1 X.2.2.2.2.2.2.2.2.2.2.2.1 d (kk H locs ls hP hD hS hl)
theorem v_mabs (X : Cx x own cc nl fr lo) {index : Nat} {a : Int32} (hl1 : Cond.methodLink own index Lib.Math.abs.name ∈ lw_all) (hl2 : Cond.static Lib.Math.abs.name ∈ lw_all) (hl3 : Cond.initialized "java/lang/Math" ∈ lw_all) (hl4 : Cond.code Lib.Math.abs.name Lib.Math.abs.code 1 (some .int) ∈ lw_all) (hR : 1 ≤ fr) (hR2 : (st.map fun v => v.category).sum + 13 ≤ lo) (d : decode cc pc = .ok (.invokestatic index, 3)) (kk : V x w L (.int (absF a) :: st) (pc + 3)) : V x w L (.int a :: st) pc := fun H locs ls hP hD hS hl => va_mabs X.1 X.2.1 (X.2.2.1.trans hl.1.symm) X.2.2.2.1 (X.2.2.2.2.1 _ hl1) (X.2.2.2.2.1 _ hl2) (X.2.2.2.2.1 _ hl3) (X.2.2.2.2.1 _ hl4) (Nat.le_trans hR X.2.2.2.2.2.2.2.2.1) (Nat.le_trans hR2 X.2.2.2.2.2.2.2.2.2.1) X.2.2.2.2.2.2.2.2.2.2.1 X.2.2.2.2.2.2.2.2.2.2.2.1 d (kk H locs ls hP hD hS hl)
theorem v_sub {L2 : List (Nat × Value)} (js : List Nat) (hL : lv_pick L js = L2) (kk : V x w L2 st pc) : V x w L st pc := fun H locs ls hP hD hS hl => kk H locs ls hP hD hS (lv_sub hl js hL)
theorem v_zret (X : Cx x own cc nl fr lo) {v : Int32} {ty : FieldType} (F : Fn x (some ty) (some (.int v)) w) (hn : narrow ty (.int v) = .int v) (d : decode cc pc = .ok (.ireturn, 1)) : V x w L [.int v] pc := by
  intro H locs ls hP hD hS hl
  obtain ⟨f1, f2, f3⟩ := F
  rw [f3]
  exact W.zret (ty := ty) X.1 X.2.1 f1 hn (fun t ht hW => ⟨⟨rfl, by rw [ht]; exact hP, hD⟩, hS.F ht⟩) hS.2.2 d f2
theorem v_iret (X : Cx x own cc nl fr lo) {v : Int32} (F : Fn x (some .int) (some (.int v)) w) (d : decode cc pc = .ok (.ireturn, 1)) : V x w L [.int v] pc := v_zret X F rfl d
theorem nar_b (b : Bool) : narrow .boolean (.int (b2i b)) = .int (b2i b) := by cases b <;> rfl
theorem v_bret (X : Cx x own cc nl fr lo) {b : Bool} (F : Fn x (some .boolean) (some (.int (b2i b))) w) (d : decode cc pc = .ok (.ireturn, 1)) : V x w L [.int (b2i b)] pc := v_zret X F (nar_b b) d
theorem v_vret (X : Cx x own cc nl fr lo) (F : Fn x none none w) (d : decode cc pc = .ok (.return_, 1)) : V x w L [] pc := by
  intro H locs ls hP hD hS hl
  obtain ⟨f1, f2, f3⟩ := F
  rw [f3]
  exact W.vret X.1 X.2.1 f1 (fun t ht hW => ⟨⟨rfl, by rw [ht]; exact hP, hD⟩, hS.F ht⟩) hS.2.2 d f2
theorem v_aret (X : Cx x own cc nl fr lo) {v : Value} {nm : String} (F : Fn x (some (.object nm)) (some v) w) (hv : v = .null ∨ ∃ a, v = .ref a) (d : decode cc pc = .ok (.areturn, 1)) : V x w L [v] pc := by
  intro H locs ls hP hD hS hl
  obtain ⟨f1, f2, f3⟩ := F
  rw [f3]
  exact W.aret X.1 X.2.1 f1 (Or.inl ⟨nm, rfl⟩) hv (fun t ht hW => ⟨⟨rfl, by rw [ht]; exact hP, hD⟩, hS.F ht⟩) hS.2.2 d f2
end ROWS
theorem og {c : Prop} {dc : Decidable c} {α : Type} {A : Option α} {r : α} (h : (@ite _ c dc A none) = some r) : c ∧ A = some r := by
  by_cases hc : c
  · rw [if_pos hc] at h; exact ⟨hc, h⟩
  · rw [if_neg hc] at h; cases h
theorem ob {α β : Type} {A : Option α} {f : α → Option β} {r : β} (h : A.bind f = some r) : ∃ a, A = some a ∧ f a = some r := by
  cases A with
  | none => cases h
  | some a => exact ⟨a, rfl, h⟩
theorem oi {α : Type} {a b : α} (h : some a = some b) : a = b := Option.some.inj h
def asB (v : Int32) : Option Bool := if v = 0 then some false else if v = 1 then some true else none
theorem asB_s {v : Int32} {b : Bool} (h : asB v = some b) : v = b2i b := by
  unfold asB at h
  split at h
  · rename_i e; cases h; exact e
  · split at h
    · rename_i e; cases h; exact e
    · cases h
