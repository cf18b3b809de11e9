/-! the law: calls that draw, doubles, and the last case -/
def lcx (x : Ctx) (s' : State) : Ctx := (x.1, (s', x.m, x.args, x.below), x.2.2.1, x.2.2.2)
theorem Cx.lc {x : Ctx} {own : String} {cc : ByteArray} {nl fr lo : Nat} (X : Cx x own cc nl fr lo) {s0 : State} {d0 d1 : Drawn} (hs : x.s = s0.setDrawn d0) : Cx (lcx x (s0.setDrawn d1)) own cc nl fr lo := by
  obtain ⟨⟨p, l, e, R⟩, ⟨s, m, args, below⟩, ⟨meth, c, cells, slots⟩, ⟨g, A, nL, Q⟩⟩ := x
  have hs' : s = s0.setDrawn d0 := hs
  subst hs'
  obtain ⟨h1, h2, h3, h4, h5, h6, h7, h8, h9⟩ := X
  refine ⟨h1, h2, h3, h4, fun w hw => ?_, fun w hw => ?_, h7, h8, h9⟩
  · have a := h5 w hw
    exact (Cond.before_setDrawn args s0 d1 w).trans ((Cond.before_setDrawn args s0 d0 w).symm.trans a)
  · have hk : lw_isNst w = true := List.all_eq_true.mp lw_nst_all w hw
    have ho : w.onTables = true := by
      cases w <;> first | rfl | (simp [lw_isNst] at hk)
    exact va_Nw.same ho (u := s0.setDrawn d0) (U := s0.setDrawn d1) rfl (h6 w hw)
section ROWE
variable {x : Ctx} {own : String} {cc : ByteArray} {nl fr lo : Nat} {w w' : va_W} {L : List (Nat × Value)} {st : List Value} {pc : Nat}
theorem v_callVD (X : Cx x own cc nl fr lo) {s0 : State} {d0 : Drawn} (hs : x.s = s0.setDrawn d0) (hd : s0.drawn.sameBut d0 lw_cs) {y : MethodName} {cc' : ByteArray} {maxL' : Nat} {index fr' lo' b : Nat} {wc wc' : va_W} {v : UInt64}
    (hM : OkD x.l x.g y cc' maxL' fr' lo' [.ref b] wc v wc') (c : CwB y cc' maxL' (some .double) 0) (hl : Cond.methodLink own index y ∈ lw_all) (hi : Cond.instanceMethod y ∈ lw_all) (hsel : Cond.selects y.cls y y ∈ lw_all)
    (hR : fr' + 1 ≤ fr ∧ 8 + (maxL' + 11) + lo' ≤ lo) (q0 ci : Nat) {fs : List Value} (he : w[q0]? = some (b, .inr (ci, fs))) {cq : vw_C} (hc : vwCl[ci]? = some cq) (hcq : cq.1 = y.cls) (F : Fr w wc wc' w') (d : decode cc pc = .ok (.invokevirtual index, 3))
    (kk : ∀ (r : UInt64) (d1 : Drawn), alike64 r v = true → s0.drawn.sameBut d1 lw_cs → V (lcx x (s0.setDrawn d1)) w' L [.double r] (pc + 3)) : V x w L [.ref b] pc := by
  have B := c.B X hl hR.1 hR.2
  have wi := X.2.2.2.2.1 _ hi
  have wsel := X.2.2.2.2.1 _ hsel
  have pre := fun (H : Heap) (hPc : va_P x.g.1 vwCl wc H) (hDc : va_D (fun _ => True) wc) => v_pre X (av := [.ref b]) hPc hDc
  have recv := fun (H : Heap) (hP : va_P x.g.1 vwCl w H) => va_recv X.2.2.2.2.2.2.1 hP hc he
  intro H locs ls hP hD hS hlv
  have hPc := F.P hP
  have hDc := F.D hD
  have hFc := F.free hD hS X.2.2.2.2.2.2.2.1
  have pre' := pre H hPc (hDc.weaken (fun _ _ _ _ => trivial))
  have recv' := recv H hP
  obtain ⟨⟨p, l, e, R⟩, ⟨s, m, args, below⟩, ⟨meth, c', cells, slots⟩, ⟨g, A, nL, Q⟩⟩ := x
  have hs' : s = s0.setDrawn d0 := hs
  subst hs'
  refine va_calldD (s := s0) hd (va_runV_D (C := y.cls) (As := []) (rest := []) ⟨X.1, X.2.1, rfl, X.2.2.2.1, X.2.2.2.2.1⟩ (hM H.size) ⟨B, wi, wsel⟩
    ⟨Pq.blind, by rw [← hcq]; exact recv', pre'⟩ rfl rfl (hlv.1.trans X.2.2.1.symm) rfl (lv_room (by decide)) d ⟨X.2.2.2.2.2.2.2.2.2.2.1, X.2.2.2.2.2.2.2.2.2.2.2.1⟩) hS (fun q _ hq => hFc q hq) hFc (fun r u t H1 locs1 ht hvm hal hB hsz hk hS1 d1 hd1 => ?_)
  exact kk r d1 hal hd1 H1 locs1 ls (F.P' hP hD hk (by rw [← ht]; exact hB.1)) (F.D' hD) hS1 hlv
theorem v_dstore (X : Cx x own cc nl fr lo) {i : Nat} {v : UInt64} {L2 : List (Nat × Value)} (d : decode cc pc = .ok (.dstore i, 2)) (hn : i + 1 < nl) (hL : (i, Value.double v) :: L.filter (fun q => !(q.1 == i) && (!(q.1 == i + 1) && !(q.1 + 1 == i && q.2.category == 2))) = L2) (kk : V x w L2 st (pc + 2)) : V x w L (.double v :: st) pc := fun H locs ls hP hD hS hl => lv_dstore X.1 X.2.1 d hl (by rw [X.2.2.2.2.2.2.2.2.2.2.2.2]; exact hn) hL (fun ls2 hl2 => kk H locs ls2 hP hD hS hl2)
theorem v_dload (X : Cx x own cc nl fr lo) {i : Nat} {v : UInt64} (d : decode cc pc = .ok (.dload i, 2)) (j : Nat) (hj : L[j]? = some (i, .double v)) (kk : V x w L (.double v :: st) (pc + 2)) : V x w L st pc := fun H locs ls hP hD hS hl => lv_dload X.1 X.2.1 d (lv_at hl j hj) (kk H locs ls hP hD hS hl)
theorem v_dcmp (X : Cx x own cc nl fr lo) {a b : UInt64} {op : CmpOp} (d : decode cc pc = .ok (.dcmp op, 1)) (kk : V x w L (.int (Op.cmpValue (FP.dcmp a b) op) :: st) (pc + 1)) : V x w L (.double b :: .double a :: st) pc := fun H locs ls hP hD hS hl => lv_dcmp X.1 X.2.1 d (kk H locs ls hP hD hS hl)
end ROWE
