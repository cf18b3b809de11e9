/-! the law: calls that draw, doubles, and the last case -/
def lcx (x : Ctx) (s' : State) : Ctx := (x.1, (s', x.m, x.args, x.below), x.2.2.1, x.2.2.2)
theorem Cx.lc {x : Ctx} {own : String} {cc : ByteArray} {nl fr lo : Nat} (X : Cx x own cc nl fr lo) {s0 : State} {d0 d1 : Drawn} (hs : x.s = s0.setDrawn d0) : Cx (lcx x (s0.setDrawn d1)) own cc nl fr lo := by
  obtain ⟨⟨p, l, e, R⟩, ⟨s, m, args, below⟩, ⟨meth, c, cells, slots⟩, ⟨g, A, nL, Q⟩⟩ := x
  have hs' : s = s0.setDrawn d0 := hs
  subst hs'
  obtain ⟨h1, h2, h3, h4, h5, h6, h7, h8, h9⟩ := X
  refine ⟨h1, h2, h3, h4, fun w hw => ?_, fun w hw => ?_, h7, h8, h9⟩
  · have a := h5 w hw
    exact (Cond.before_setDrawn args s0 w d1).trans ((Cond.before_setDrawn args s0 w d0).symm.trans a)
  · have hk : lw_isNst w = true := List.all_eq_true.mp lw_nst_all w hw
    have ho : w.onTables = true := by
      cases w <;> first | rfl | (simp [lw_isNst] at hk)
    exact va_Nw.same ho (u := s0.setDrawn d0) (U := s0.setDrawn d1) rfl (h6 w hw)
section ROWE
variable {x : Ctx} {own : String} {cc : ByteArray} {nl fr lo : Nat} {w w' : va_W} {L : List (Nat × Value)} {st : List Value} {pc : Nat}
theorem v_callVD (X : Cx x own cc nl fr lo) {s0 : State} {d0 : Drawn} (hs : x.s = s0.setDrawn d0) (hd : s0.drawn.sameBut d0 lw_cs) {y : MethodName} {cc' : ByteArray} {maxL' : Nat} {index fr' lo' b : Nat} {wc wc' : va_W} {v : UInt64}
    (hM : OkD x.l x.g y cc' maxL' fr' lo' [.ref b] wc v wc') (c : CwB y cc' maxL' (some .double) 0) (hl : Cond.methodLink own index y ∈ lw_all) (hi : Cond.instanceMethod y ∈ lw_all) (hsel : Cond.selects y.cls y y ∈ lw_all)
    (hR : fr' + 1 ≤ fr ∧ 8 + (maxL' + 11) + lo' ≤ lo) (q0 ci : Nat) {fs : List Value} (he : w[q0]? = some (b, .inr (ci, fs))) {cq : vw_C} (hc : vwCl[ci]? = some cq) (hcq : cq.1 = y.cls) (F : Fr w wc wc' w') (d : decode cc pc = .ok (.invokevirtual index, 3))
    (kk : ∀ (r : UInt64) (d1 : Drawn), alike64 r v = true → s0.drawn.sameBut d1 lw_cs → V (lcx x (s0.setDrawn d1)) w' L [.double r] (pc + 3)) : V x w L [.ref b] pc := by
  have B := c.B X hl hR.1 hR.2
  have wi := X.2.2.2.2.1 _ hi
  have wsel := X.2.2.2.2.1 _ hsel
  have pre := fun (H : Heap) (hPc : va_P x.g.1 vwCl wc H) (hDc : va_D (fun _ => True) wc) => v_pre X (av := [.ref b]) hPc hDc
  have recv := fun (H : Heap) (hP : va_P x.g.1 vwCl w H) => va_recv X.2.2.2.2.2.2.1 hP hc he
  intro H locs ls hP hD hS hlv
  have hPc := F.P hP
  have hDc := F.D hD
  have hFc := F.free hD hS X.2.2.2.2.2.2.2.1
  have pre' := pre H hPc (hDc.weaken (fun _ _ _ _ => trivial))
  have recv' := recv H hP
  obtain ⟨⟨p, l, e, R⟩, ⟨s, m, args, below⟩, ⟨meth, c', cells, slots⟩, ⟨g, A, nL, Q⟩⟩ := x
  have hs' : s = s0.setDrawn d0 := hs
  subst hs'
  refine va_calldD (s := s0) hd (va_runV_D (C := y.cls) (As := []) (rest := []) ⟨X.1, X.2.1, rfl, X.2.2.2.1, X.2.2.2.2.1⟩ (hM H.size) ⟨B, wi, wsel⟩
    ⟨Pq.blind, by rw [← hcq]; exact recv', pre'⟩ rfl rfl (hlv.1.trans X.2.2.1.symm) rfl (lv_room (by decide)) d ⟨X.2.2.2.2.2.2.2.2.2.2.1, X.2.2.2.2.2.2.2.2.2.2.2.1⟩) hS (fun q _ hq => hFc q hq) hFc (fun r u t H1 locs1 ht hvm hal hB hsz hk hS1 d1 hd1 => ?_)
  exact kk r d1 hal hd1 H1 locs1 ls (F.P' hP hD hk (by rw [← ht]; exact hB.1)) (F.D' hD) hS1 hlv
theorem v_dstore (X : Cx x own cc nl fr lo) {i : Nat} {v : UInt64} {L2 : List (Nat × Value)} (d : decode cc pc = .ok (.dstore i, 2)) (hn : i + 1 < nl) (hL : (i, Value.double v) :: L.filter (fun q => !(q.1 == i) && (!(q.1 == i + 1) && !(q.1 + 1 == i && q.2.category == 2))) = L2) (kk : V x w L2 st (pc + 2)) : V x w L (.double v :: st) pc := fun H locs ls hP hD hS hl => lv_dstore X.1 X.2.1 d hl (by rw [X.2.2.2.2.2.2.2.2.2.2.2.2]; exact hn) hL (fun ls2 hl2 => kk H locs ls2 hP hD hS hl2)
theorem v_dload (X : Cx x own cc nl fr lo) {i : Nat} {v : UInt64} (d : decode cc pc = .ok (.dload i, 2)) (j : Nat) (hj : L[j]? = some (i, .double v)) (kk : V x w L (.double v :: st) (pc + 2)) : V x w L st pc := fun H locs ls hP hD hS hl => lv_dload X.1 X.2.1 d (lv_at hl j hj) (kk H locs ls hP hD hS hl)
theorem v_dcmp (X : Cx x own cc nl fr lo) {a b : UInt64} {op : CmpOp} (d : decode cc pc = .ok (.dcmp op, 1)) (kk : V x w L (.int (Op.cmpValue (FP.dcmp a b) op) :: st) (pc + 1)) : V x w L (.double b :: .double a :: st) pc := fun H locs ls hP hD hS hl => lv_dcmp X.1 X.2.1 d (kk H locs ls hP hD hS hl)
end ROWE
theorem nan_cmp {r : UInt64} (h : isNaN64 r = true) : Op.cmpValue (FP.dcmp r r) CmpOp.l = -1 := by
  have b := isNaN64_iff.mp h
  have b2 : 9218868437227405312 < r.toNat % 2 ^ 63 := by
    have e : (0x7fffffffffffffff : Nat) = 2 ^ 63 - 1 := by decide
    rw [e, Nat.and_two_pow_sub_one_eq_mod] at b
    exact b
  have v : FP.Core.val64 r = .nan := (FP.Core.dIsNaN_iff r).mp ((FP.Core.isNaN_bits r).mpr b2)
  have e : FP.dcmp r r = none := (FP.Core.dcmp_none r r).mpr (.inl v)
  rw [e]; rfl
theorem alike_eq {r1 r2 v : UInt64} (h1 : alike64 r1 v = true) (h2 : alike64 r2 v = true) (n : isNaN64 r1 = false) : r1 = r2 := by
  have a : r1 = v := by simpa [alike64, n] using h1
  subst a
  have b : r2 = r1 := by simpa [alike64, n] using h2
  exact b.symm
theorem cmp_0 {r : UInt64} (h : Op.cmpValue (FP.dcmp r r) CmpOp.l = 0) : isNaN64 r = false := by
  cases q : isNaN64 r
  · rfl
  · rw [nan_cmp q] at h
    exact absurd h (by decide)
theorem cw_X5_fullness : CwB yX5_fullness cX5_fullness 2 (some .double) 0 := ⟨q_652, q_50, by decide, by decide, by decide +kernel⟩
theorem cw_X6_fullness : CwB yX6_fullness cX6_fullness 3 (some .double) 0 := ⟨q_945, q_56, by decide, by decide, by decide +kernel⟩
set_option maxHeartbeats 4000000 in
set_option maxRecDepth 100000 in
theorem law_26 {x : Ctx} {bs a0 i Ln : Nat} {s0 : State} {d0 : Drawn} (X : Cx x RL cL_law 8 10 350) (hs0 : x.s = s0.setDrawn d0) (hd : s0.drawn.sameBut d0 lw_cs) (b : Nat → Nat → Nat) (a : Nat → Nat) {N : Nat} {G : NB} {z : Nat} {H : Nat → NB} {hs : Int32} {n0 n1 n2 : Blk} {ζ : Row} {η : Nat → Blk} {δ : Row} {χ μ : Blk} (S : St N G z H hs n0 n1 ζ η χ μ)
    (kk : ∀ d1 : Drawn, s0.drawn.sameBut d1 lw_cs → V (lcx x (s0.setDrawn d1)) (wHS x.g b hs n0 n1 n2 ζ η δ χ ++ wM x.g a μ) (L0 bs (b 11 0) (a 0) i) [] 933) : V x (wHS x.g b hs n0 n1 n2 ζ η δ χ ++ wM x.g a μ) (L0 bs (b 11 0) (a 0) i) [] 892 := by
  obtain ⟨qp, qr, f1, f2, f3, f4, f5⟩ := sim_fullness S
  refine v_aload_n X (pc := 892) dL_law_892 rfl 1 rfl ?_
  refine v_callVD X (pc := 893) hs0 hd (w' := wHS x.g b hs n0 n1 n2 ζ η δ χ ++ wM x.g a μ) (c_X5_fullness x.l x.g b hs n0 n1 n2 ζ η δ χ f1 f2 f3) cw_X5_fullness q_649 q_650 q_651 ⟨by decide, by decide⟩ 0 5 rfl rfl rfl (Fr.left rfl) dL_law_893 (fun r1 d1 al1 hd1 => ?_)
  have X1 : Cx (lcx x (s0.setDrawn d1)) RL cL_law 8 10 350 := X.lc hs0
  refine v_dstore X1 (pc := 896) (L2 := (4, .double r1) :: L0 bs (b 11 0) (a 0) i) dL_law_896 (by decide) rfl ?_
  refine v_aload_n X1 (pc := 898) dL_law_898 rfl 3 rfl ?_
  refine v_callVD X1 (pc := 899) rfl hd1 (w' := wHS x.g b hs n0 n1 n2 ζ η δ χ ++ wM x.g a μ) (c_X6_fullness x.l x.g a μ f4 f5) cw_X6_fullness q_942 q_943 q_944 ⟨by decide, by decide⟩ 103 6 rfl rfl rfl (Fr.right rfl) dL_law_899 (fun r2 d2 al2 hd2 => ?_)
  have X2 : Cx (lcx x (s0.setDrawn d2)) RL cL_law 8 10 350 := X.lc hs0
  show V (lcx x (s0.setDrawn d2)) _ _ _ _
  have fin : V (lcx x (s0.setDrawn d2)) (wHS x.g b hs n0 n1 n2 ζ η δ χ ++ wM x.g a μ) ((6, .double r2) :: (4, .double r1) :: L0 bs (b 11 0) (a 0) i) [] 930 := by
    refine v_goto X2 (pc := 930) (tgt := 933) dL_law_930 (by decide) ?_
    exact v_sub (L2 := L0 bs (b 11 0) (a 0) i) [2, 3, 4, 5] rfl (kk d2 hd2)
  refine v_dstore X2 (pc := 902) (L2 := (6, .double r2) :: (4, .double r1) :: L0 bs (b 11 0) (a 0) i) dL_law_902 (by decide) rfl ?_
  refine v_dload X2 (pc := 904) dL_law_904 1 rfl ?_
  refine v_dload X2 (pc := 906) dL_law_906 0 rfl ?_
  refine v_dcmp X2 (pc := 908) dL_law_908 ?_
  refine v_ifeq X2 (pc := 909) (tgt := 930) dL_law_909 (by decide) (fun _ => fin) (fun c1 => ?_)
  refine v_dload X2 (pc := 912) dL_law_912 1 rfl ?_
  refine v_dload X2 (pc := 914) dL_law_914 1 rfl ?_
  refine v_dcmp X2 (pc := 916) dL_law_916 ?_
  refine v_ifeq X2 (pc := 917) (tgt := 928) dL_law_917 (by decide) (fun c2 => ?_) (fun c2 => ?_)
  · exfalso
    have e := alike_eq al1 al2 (cmp_0 c2)
    subst e
    exact c1 c2
  · refine v_dload X2 (pc := 920) dL_law_920 0 rfl ?_
    refine v_dload X2 (pc := 922) dL_law_922 0 rfl ?_
    refine v_dcmp X2 (pc := 924) dL_law_924 ?_
    refine v_ifne X2 (pc := 925) (tgt := 930) dL_law_925 (by decide) (fun _ => fin) (fun c3 => ?_)
    exfalso
    have e := alike_eq al2 al1 (cmp_0 c3)
    subst e
    exact c1 c3
