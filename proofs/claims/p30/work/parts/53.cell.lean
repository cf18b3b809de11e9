section ROWX
variable {x : Ctx} {own : String} {cc : ByteArray} {nl fr lo : Nat} {w w' : va_W} {L : List (Nat × Value)} {st : List Value} {pc : Nat}
theorem v_slen (X : Cx x own cc nl fr lo) {b Ln : Nat} {xs : Nat → Int32} (hX : va_X b Ln xs x.s x.s.heap) (hbl : b < x.s.heap.size) (hbA : ¬ x.A b) (d : decode cc pc = .ok (.arraylength, 1)) (kk : V x w L (.int (nI Ln) :: st) (pc + 1)) : V x w L (.ref b :: st) pc := fun H locs ls hP hD hS hl => va_slen X.1 X.2.1 hX hbl hbA hS d (kk H locs ls hP hD hS hl)
theorem v_sld (X : Cx x own cc nl fr lo) {b Ln : Nat} {xs : Nat → Int32} (hX : va_X b Ln xs x.s x.s.heap) (hbl : b < x.s.heap.size) (hbA : ¬ x.A b) {i : Int32} {v : Int32} (hin : vp_in i Ln) (hv : xs i.toNatClampNeg = v) (d : decode cc pc = .ok (.iaload, 1)) (kk : V x w L (.int v :: st) (pc + 1)) : V x w L (.int i :: .ref b :: st) pc := by
  subst hv
  exact fun H locs ls hP hD hS hl => va_sld X.1 X.2.1 hX hbl hbA hS hin d (kk H locs ls hP hD hS hl)
def PqX (g : Gl) (b Ln : Nat) (xs : Nat → Int32) (sz : Nat) : State → Prop := fun U => Pq g [] sz U ∧ va_X b Ln xs U U.heap ∧ b < sz
theorem PqX.blind {g : Gl} {b Ln : Nat} {xs : Nat → Int32} {sz : Nat} {av : List Value} : FrameBlind (va_Pc av (PqX g b Ln xs sz)) := by
  intro a U g' mk q
  obtain ⟨q0, q1, q2, q3⟩ := q
  have h := Pq.blind (g := g) (w := []) (sz := sz) (av := av) a U g' mk ⟨q0, q1⟩
  exact ⟨h.1, h.2, va_X.moved (u := U) (U := U.calling g' mk a) (Vm.Alike.refl U.vm) q2, q3⟩
def OkX (l : Launch) (g : Gl) (b Ln : Nat) (xs : Nat → Int32) (k v : Int32) : Prop :=
  ∀ sz : Nat, Met l yL_cell (Cond.code yL_cell cL_cell 2 (some .int) :: lw_all) ({ frames := 0, cells := 0, slots := 0, locals := 0 } : Room) (va_Pc [.ref b, .int k] (PqX g b Ln xs sz)) (Qf g (va_A [] sz) (some (.int v)) []) 0 0 (va_A [] sz)
theorem v_callX (X : Cx x own cc nl fr lo) {b Ln index : Nat} {xs : Nat → Int32} {k v : Int32} (hX : va_X b Ln xs x.s x.s.heap) (hbl : b < x.s.heap.size) (hbA : ¬ x.A b) (hM : OkX x.l x.g b Ln xs k v) (c : CwB yL_cell cL_cell 2 (some .int) 2) (hlk : Cond.methodLink own index yL_cell ∈ lw_all) (hs : Cond.static yL_cell ∈ lw_all) (hR : 1 ≤ fr ∧ 21 ≤ lo) (hst : (st.map fun v => v.category).sum ≤ 8) (d : decode cc pc = .ok (.invokestatic index, 3))
    (kk : V x w L (.int v :: st) (pc + 3)) : V x w L (.int k :: .ref b :: st) pc := by
  intro H locs ls hP hD hS hl T hT X0
  have F : Fr w [] [] w := Fr.nil
  have hPc := F.P hP
  have hDc := (F.D hD).weaken (B := fun _ => True) (fun _ _ _ _ => trivial)
  have hFc := F.free hD hS X.2.2.2.2.2.2.2.1
  have hXH : va_X b Ln xs x.s H := hX.kept (hS.2.1 b hbl hbA)
  have run : va_Run x.p x.l x.e x.R x.s x.m x.args x.below x.meth x.c H locs x.cells x.slots 0 0 (F0 x.m pc ls (.int k :: .ref b :: st)) st (Qf x.g (va_A [] H.size) (some (.int v)) [] [Value.ref b, .int k].toArray) (va_A [] H.size) :=
    va_runS (As := [.ref b, .int k]) (rest := st) ⟨X.1, X.2.1, rfl, X.2.2.2.1, X.2.2.2.2.1⟩ (hM H.size) ⟨c.B X hlk hR.1 hR.2, X.2.2.2.2.1 _ hs⟩
      ⟨PqX.blind, fun U hU hW => ⟨rfl, (v_pre X (av := [.ref b, .int k]) hPc hDc U hU hW).2, va_X.moved hW.alike (by rw [hU]; exact hXH), Nat.lt_of_lt_of_le hbl hS.1⟩⟩ rfl rfl (hl.1.trans X.2.2.1.symm) rfl (lv_room hst) d ⟨X.2.2.2.2.2.2.2.2.2.2.1, X.2.2.2.2.2.2.2.2.2.2.2.1⟩
  obtain ⟨v', st₀, t, T', Lc, h0, X', hL, e1, e2, ⟨⟨hv, hP1, hD1⟩, hz, hk⟩, stp⟩ := run T hT X0
  have hvr : v' = some (.int v) := Outcome.returned.inj hv
  subst hvr
  rw [h0] at hz hk
  have hS' : va_S x.A x.s.heap T'.heap (locs ++ Lc) := ⟨Nat.le_trans hS.1 (by rw [e1]; exact hz), fun q h1 h2 => by rw [e1, hk q (Nat.lt_of_lt_of_le h1 hS.1) (fun z => h2 (hFc q z))]; exact hS.2.1 q h1 h2, fun q hq => by
      rcases List.mem_append.mp hq with h | h
      · exact hS.2.2 q h
      · exact hFc _ (hL q h)⟩
  obtain ⟨t2, a1, b1⟩ := kk T'.heap (locs ++ Lc) ls (F.P' hP hD (fun q h1 h2 => by rw [e1]; exact hk q h1 h2) (by rw [e1]; exact hP1)) (F.D' hD) hS' hl T' rfl X'
  exact ⟨t2, stp t2 a1, b1⟩
end ROWX
/-- a cell of the script, or of the numbers behind its end -/
def cvI (Ln : Nat) (xs : Nat → Int32) (i : Nat) : Int32 := (if i < Ln then xs i else 48397 * nI (i % 4096) + nI 337) &&& 2147483647
set_option maxHeartbeats 4000000 in
set_option maxRecDepth 100000 in
theorem c_L_cell (l : Launch) (g : Gl) {b Ln : Nat} {xs : Nat → Int32} {i : Nat} (hi : i < 2 ^ 31) (hL : Ln < 2 ^ 31) : OkX l g b Ln xs (nI i) (cvI Ln xs i) := by
  intro sz
  refine Met.ofW (cc := cL_cell) (maxL := 2) (ret := some .int) (by decide) rfl ?_
  intro p e s m args below meth c s₁ B hml hv
  obtain ⟨rfl, ⟨hsz, hP, hK, hD0, hN⟩, hX, hbl⟩ := hv
  have hts := atoms_spec (ws := Cond.code yL_cell cL_cell 2 (some .int) :: lw_all) B.pre
  have hown : s.vm.findClass RL = some m.cls := findClass_of_methodNamed B.named
  subst hsz
  have hD := hD0.self (sz := s.heap.size)
  rw [lg_entry_eq]
  have hl := lv_entry [.ref b, .int (nI i)] (n := 2) (Nat.le_of_ble_eq_true rfl)
  let x : Ctx := ((p, l, e, (headSpec (Cond.code yL_cell cL_cell 2 (some .int) :: lw_all) ({ frames := 0, cells := 0, slots := 0, locals := 0 } : Room)).room), (s, m, [Value.ref b, .int (nI i)].toArray, below), (meth, c, 0, 0), (g, va_A [] s.heap.size, 2, MQ below (Qf g (va_A [] s.heap.size) (some (.int (cvI Ln xs i))) []) [Value.ref b, .int (nI i)].toArray s 0 0 (va_A [] s.heap.size)))
  have X : Cx x RL cL_cell 2 0 0 := ⟨B.exec, B.bytes, hml, hown, fun w h => hts w (List.mem_cons_of_mem _ h), hN, hK, fun q h => Or.inr h, Nat.le_refl _, Nat.le_refl _, Nat.le_refl _, Nat.le_refl _, rfl⟩
  have F : Fn x (some .int) (some (.int (cvI Ln xs i))) [] := ⟨B.returns, B.notSynchronized, rfl⟩
  have hXx : va_X b Ln xs x.s x.s.heap := hX
  have hblx : b < x.s.heap.size := hbl
  have hbA : ¬ x.A b := by
    intro c
    rcases c with ⟨k, e, h⟩ | h
    · simp at h
    · exact absurd hbl (Nat.not_lt.mpr h)
  suffices K : V x [] [(0, .ref b), (1, .int (nI i))] [] 0 from K s.heap [] _ hP hD va_S.rf hl
  refine v_iload_n X (pc := 0) dL_cell_0 rfl 1 rfl ?_
  refine v_aload_n X (pc := 1) dL_cell_1 rfl 0 rfl ?_
  refine v_slen X (pc := 2) hXx hblx hbA dL_cell_2 ?_
  refine v_icmpge X (pc := 3) (tgt := 12) dL_cell_3 (by decide) (fun cc => ?_) (fun cc => ?_)
  · skip
    have ge : ¬ i < Ln := fun q => absurd cc (nI_ge q hL)
    refine v_ldc X (pc := 12) (v := 48397) q_311 dL_cell_12 ?_
    refine v_iload_n X (pc := 14) dL_cell_14 rfl 1 rfl ?_
    refine v_sipush X (pc := 15) (v := nI 4096) dL_cell_15 (by decide) ?_
    refine v_irem X (pc := 18) dL_cell_18 (by decide) ?_
    refine v_top (b := nI (i % 4096)) (pk_rem (by omega) (by decide) (by decide)) ?_
    refine v_imul X (pc := 19) dL_cell_19 ?_
    refine v_sipush X (pc := 20) (v := nI 337) dL_cell_20 (by decide) ?_
    refine v_iadd X (pc := 23) dL_cell_23 ?_
    refine v_ldc X (pc := 24) (v := 2147483647) q_312 dL_cell_24 ?_
    refine v_iand X (pc := 26) dL_cell_26 ?_
    refine v_top (b := cvI Ln xs i) (by unfold cvI; rw [if_neg ge]) ?_
    exact v_iret X (pc := 27) F dL_cell_27
  · skip
    have lt : i < Ln := by { by_cases q : i < Ln; exact q; exact absurd (nI_le (by omega) (by omega)) cc }
    refine v_aload_n X (pc := 6) dL_cell_6 rfl 0 rfl ?_
    refine v_iload_n X (pc := 7) dL_cell_7 rfl 1 rfl ?_
    refine v_sld X (pc := 8) hXx hblx hbA (v := xs i) (ib_in (ib_nI lt hL)) (by rw [nI_clamp hi]) dL_cell_8 ?_
    refine v_goto X (pc := 9) (tgt := 24) dL_cell_9 (by decide) ?_
    refine v_ldc X (pc := 24) (v := 2147483647) q_312 dL_cell_24 ?_
    refine v_iand X (pc := 26) dL_cell_26 ?_
    refine v_top (b := cvI Ln xs i) (by unfold cvI; rw [if_pos lt]) ?_
    exact v_iret X (pc := 27) F dL_cell_27
theorem cw_L_cell : CwB yL_cell cL_cell 2 (some .int) 2 := ⟨q_310, q_13, by decide, by decide, by decide +kernel⟩
