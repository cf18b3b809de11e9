set_option maxHeartbeats 4000000 in
set_option maxRecDepth 100000 in
theorem law_26 {x : Ctx} {bs a0 i Ln : Nat} {s0 : State} {d0 : Drawn} (X : Cx x RL cL_law 8 10 350) (hs0 : x.s = s0.setDrawn d0) (hd : s0.drawn.sameBut d0 lw_cs) (b : Nat → Nat → Nat) (a : Nat → Nat) {N : Nat} {G : NB} {z : Nat} {H : Nat → NB} {hs : Int32} {n0 n1 n2 : Blk} {ζ : Row} {η : Nat → Blk} {δ : Row} {χ μ : Blk} (S : St N G z H hs n0 n1 ζ η χ μ)
    (kk : ∀ d1 : Drawn, s0.drawn.sameBut d1 lw_cs → V (lcx x (s0.setDrawn d1)) (wHS x.g b hs n0 n1 n2 ζ η δ χ ++ wM x.g a μ) (L0 bs (b 11 0) (a 0) i) [] 933) : V x (wHS x.g b hs n0 n1 n2 ζ η δ χ ++ wM x.g a μ) (L0 bs (b 11 0) (a 0) i) [] 892 := by
  obtain ⟨qp, qr, f1, f2, f3, f4, f5⟩ := sim_fullness S
  refine v_aload_n X (pc := 892) dL_law_892 rfl 1 rfl ?_
  refine v_callVD X (pc := 893) hs0 hd (w' := wHS x.g b hs n0 n1 n2 ζ η δ χ ++ wM x.g a μ) (c_X5_fullness x.l x.g b hs n0 n1 n2 ζ η δ χ f1 f2 f3) cw_X5_fullness q_654 q_655 q_656 ⟨by decide, by decide⟩ 0 5 rfl rfl rfl (Fr.left rfl) dL_law_893 (fun r1 d1 al1 hd1 => ?_)
  have X1 : Cx (lcx x (s0.setDrawn d1)) RL cL_law 8 10 350 := X.lc hs0
  refine v_dstore X1 (pc := 896) (L2 := (4, .double r1) :: L0 bs (b 11 0) (a 0) i) dL_law_896 (by decide) rfl ?_
  refine v_aload_n X1 (pc := 898) dL_law_898 rfl 3 rfl ?_
  refine v_callVD X1 (pc := 899) rfl hd1 (w' := wHS x.g b hs n0 n1 n2 ζ η δ χ ++ wM x.g a μ) (c_X6_fullness x.l x.g a μ f4 f5) cw_X6_fullness q_947 q_948 q_949 ⟨by decide, by decide⟩ 103 6 rfl rfl rfl (Fr.right rfl) dL_law_899 (fun r2 d2 al2 hd2 => ?_)
  have X2 : Cx (lcx x (s0.setDrawn d2)) RL cL_law 8 10 350 := X.lc hs0
  show V (lcx x (s0.setDrawn d2)) _ _ _ _
  have fin : V (lcx x (s0.setDrawn d2)) (wHS x.g b hs n0 n1 n2 ζ η δ χ ++ wM x.g a μ) ((6, .double r2) :: (4, .double r1) :: L0 bs (b 11 0) (a 0) i) [] 930 := by
    refine v_goto X2 (pc := 930) (tgt := 933) dL_law_930 (by decide) ?_
    exact v_sub (L2 := L0 bs (b 11 0) (a 0) i) [2, 3, 4, 5] rfl (kk d2 hd2)
  refine v_dstore X2 (pc := 902) (L2 := (6, .double r2) :: (4, .double r1) :: L0 bs (b 11 0) (a 0) i) dL_law_902 (by decide) rfl ?_
  refine v_dload X2 (pc := 904) dL_law_904 1 rfl ?_
  refine v_dload X2 (pc := 906) dL_law_906 0 rfl ?_
  refine v_dcmp X2 (pc := 908) dL_law_908 ?_
  refine v_ifeq X2 (pc := 909) (tgt := 930) dL_law_909 (by decide) (fun _ => fin) (fun c1 => ?_)
  refine v_dload X2 (pc := 912) dL_law_912 1 rfl ?_
  refine v_dload X2 (pc := 914) dL_law_914 1 rfl ?_
  refine v_dcmp X2 (pc := 916) dL_law_916 ?_
  refine v_ifeq X2 (pc := 917) (tgt := 928) dL_law_917 (by decide) (fun c2 => ?_) (fun c2 => ?_)
  · exfalso
    have e := alike_eq al1 al2 (cmp_0 c2)
    subst e
    exact c1 c2
  · refine v_dload X2 (pc := 920) dL_law_920 0 rfl ?_
    refine v_dload X2 (pc := 922) dL_law_922 0 rfl ?_
    refine v_dcmp X2 (pc := 924) dL_law_924 ?_
    refine v_ifne X2 (pc := 925) (tgt := 930) dL_law_925 (by decide) (fun _ => fin) (fun c3 => ?_)
    exfalso
    have e := alike_eq al2 al1 (cmp_0 c3)
    subst e
    exact c1 c3
