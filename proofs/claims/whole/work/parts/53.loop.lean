def LC (p : Program) (l : Launch) (e : Env) (s : State) (m : MethodId) (bs : Nat) (below : List Frame) (meth : Method) (c : Code) (g : Gl) (d0 : Drawn) : Ctx := ((p, l, e, room_1), (s.setDrawn d0, m, #[Value.ref bs], below), (meth, c, 107, 4349), (g, (fun q => s.heap.size ≤ q), 8, lw_Z below #[Value.ref bs] s))
set_option maxHeartbeats 4000000 in
set_option maxRecDepth 100000 in
theorem law_loop {p : Program} {l : Launch} {e : Env} {s : State} {m : MethodId} {bs Ln : Nat} {below : List Frame} {meth : Method} {c : Code} {g : Gl} {xs : Nat → Int32} {d00 : Drawn} (X0 : Cx (LC p l e s m bs below meth c g d00) RL cL_law 8 10 350) (hX0 : va_X bs Ln xs s s.heap) (hbl : bs < s.heap.size) (hr : meth.sig.returnType = ret) (hlocks : meth.locks = false) (hL : Ln ≤ 2048) (b : Nat → Nat → Nat) (a : Nat → Nat) :
    ∀ (k : Nat) (d0 : Drawn) (i : Nat) (hs : Int32) (n0 n1 n2 : Blk) (ζ : Row) (η : Nat → Blk) (δ : Row) (χ μ : Blk), s.drawn.sameBut d0 lw_cs → Ln < i + 4 * k → i ≤ Ln → Inv (125000 * i) hs n0 n1 ζ η χ μ → V (LC p l e s m bs below meth c g d0) (wHS g b hs n0 n1 n2 ζ η δ χ ++ wM g a μ) (L0 bs (b 11 0) (a 0) i) [] 18 := by
  intro k
  induction k with
  | zero =>
    intro d0 i hs n0 n1 n2 ζ η δ χ μ hd hk hi I
    omega
  | succ k ih =>
    intro d0 i hs n0 n1 n2 ζ η δ χ μ hd hk hi I
    have X : Cx (LC p l e s m bs below meth c g d0) RL cL_law 8 10 350 := X0.lc (s0 := s) (d0 := d00) (d1 := d0) rfl
    have hX : va_X bs Ln xs (LC p l e s m bs below meth c g d0).s (LC p l e s m bs below meth c g d0).s.heap := hX0.moved (u := s) (U := s.setDrawn d0) (Vm.Alike.refl s.vm)
    have hbl' : bs < (LC p l e s m bs below meth c g d0).s.heap.size := hbl
    have hbA : ¬ (LC p l e s m bs below meth c g d0).A bs := Nat.not_le.mpr hbl
    refine v_iload_n X (pc := 18) dL_law_18 rfl 3 rfl ?_
    refine v_aload_n X (pc := 19) dL_law_19 rfl 0 rfl ?_
    refine v_slen X (pc := 20) hX hbl' hbA dL_law_20 ?_
    refine v_iconst X (pc := 21) (v := 4) dL_law_21 (by decide) ?_
    refine v_isub X (pc := 22) dL_law_22 ?_
    refine v_icmpgt X (pc := 23) (tgt := 939) dL_law_23 (by decide) (fun cc => ?_) (fun cc => ?_)
    · refine v_iconst X (pc := 939) (v := 1) dL_law_939 (by decide) ?_
      intro H locs ls hP hD hS hl
      refine va_forget (fun q hq => hS.2.2 q hq) ?_
      refine W.widen (k := 600000) (n := 7302250) (Nat.le_of_ble_eq_true rfl) (Nat.le_of_ble_eq_true rfl) ?_
      exact lw_ret hd X.1 X.2.1 hr hlocks dL_law_940
    · have h4 : i + 4 ≤ Ln := by
        by_cases q : 4 ≤ Ln
        · rw [e4, nI_sub q] at cc
          by_cases z : i ≤ Ln - 4
          · omega
          · exact absurd (nI_lt (by omega) (by omega)) cc
        · exfalso
          apply cc
          rw [Int32.lt_iff_toInt_lt, nI_toInt (by omega)]
          have : Ln = 0 ∨ Ln = 1 ∨ Ln = 2 ∨ Ln = 3 := by omega
          rcases this with r | r | r | r <;> subst r
          · have : (nI 0 - 4).toInt = -4 := by decide
            omega
          · have : (nI 1 - 4).toInt = -3 := by decide
            omega
          · have : (nI 2 - 4).toInt = -2 := by decide
            omega
          · have : (nI 3 - 4).toInt = -1 := by decide
            omega
      have h31 : Ln < 2 ^ 31 := by omega
      obtain ⟨G, z, H, S⟩ := I
      have hN : 125000 * i + 2600000 ≤ 536870912 := by omega
      have kA : ∀ (d1 : Drawn), s.drawn.sameBut d1 lw_cs → ∀ (hs' : Int32) (n0' n1' n2' : Blk) (ζ' : Row) (η' : Nat → Blk) (δ' : Row) (χ' μ' : Blk), Inv (125000 * i + 500000) hs' n0' n1' ζ' η' χ' μ' → V (LC p l e s m bs below meth c g d1) (wHS g b hs' n0' n1' n2' ζ' η' δ' χ' ++ wM g a μ') (L0 bs (b 11 0) (a 0) i) [] 933 := by
        intro d1 hd1 hs' n0' n1' n2' ζ' η' δ' χ' μ' I'
        have X1 : Cx (LC p l e s m bs below meth c g d1) RL cL_law 8 10 350 := X0.lc (s0 := s) (d0 := d00) (d1 := d1) rfl
        have I2 : Inv (125000 * (i + 4)) hs' n0' n1' ζ' η' χ' μ' := by
          have ee : 125000 * (i + 4) = 125000 * i + 500000 := by omega
          rw [ee]; exact I'
        refine v_iinc X1 (pc := 933) (v := nI (i + 4)) (L2 := [(3, .int (nI (i + 4))), (0, .ref bs), (1, .ref (b 11 0)), (2, .ref (a 0))]) dL_law_933 3 rfl (by rw [show Int32.ofInt 4 = nI 4 by decide, nI_add]) (by decide) rfl ?_
        refine v_goto X1 (pc := 936) (tgt := 18) dL_law_936 (by decide) ?_
        refine v_sub (L2 := L0 bs (b 11 0) (a 0) (i + 4)) [1, 2, 3, 0] rfl ?_
        exact ih d1 (i + 4) hs' n0' n1' n2' ζ' η' δ' χ' μ' hd1 (by omega) h4 I2
      have kk := kA d0 hd
      have kS := kk hs n0 n1 n2 ζ η δ χ μ ⟨G, z, H, S.mono (by omega) (by omega)⟩
      refine v_aload_n X (pc := 26) dL_law_26 rfl 0 rfl ?_
      refine v_iload_n X (pc := 27) dL_law_27 rfl 3 rfl ?_
      refine v_sld X (pc := 28) hX hbl' hbA (v := xs i) (ib_in (ib_nI (by omega) h31)) (by rw [nI_clamp (by omega)]) dL_law_28 ?_
      refine v_bipush X (pc := 29) (v := 31) dL_law_29 (by decide) ?_
      refine v_iand X (pc := 31) dL_law_31 ?_
      generalize xs i &&& 31 = t
      by_cases hin : 0 ≤ t.toInt ∧ t.toInt ≤ 26
      · have hh : t.toInt = 0 ∨ t.toInt = 1 ∨ t.toInt = 2 ∨ t.toInt = 3 ∨ t.toInt = 4 ∨ t.toInt = 5 ∨ t.toInt = 6 ∨ t.toInt = 7 ∨ t.toInt = 8 ∨ t.toInt = 9 ∨ t.toInt = 10 ∨ t.toInt = 11 ∨ t.toInt = 12 ∨ t.toInt = 13 ∨ t.toInt = 14 ∨ t.toInt = 15 ∨ t.toInt = 16 ∨ t.toInt = 17 ∨ t.toInt = 18 ∨ t.toInt = 19 ∨ t.toInt = 20 ∨ t.toInt = 21 ∨ t.toInt = 22 ∨ t.toInt = 23 ∨ t.toInt = 24 ∨ t.toInt = 25 ∨ t.toInt = 26 := by omega
        rcases hh with h | h | h | h | h | h | h | h | h | h | h | h | h | h | h | h | h | h | h | h | h | h | h | h | h | h | h
        · refine v_tswIn X (pc := 32) (tgt := 156) (off := 124) dL_law_32 (by omega) (by omega) (by rw [h]; rfl) (by decide) ?_
          exact law_0 (a0 := 0) X hX hbl' hbA (by omega) h31 b a S hN kk
        · refine v_tswIn X (pc := 32) (tgt := 189) (off := 157) dL_law_32 (by omega) (by omega) (by rw [h]; rfl) (by decide) ?_
          exact law_1 (a0 := 0) X hX hbl' hbA (by omega) h31 b a S hN kk
        · refine v_tswIn X (pc := 32) (tgt := 222) (off := 190) dL_law_32 (by omega) (by omega) (by rw [h]; rfl) (by decide) ?_
          exact law_2 (a0 := 0) X hX hbl' hbA (by omega) h31 b a S hN kk
        · refine v_tswIn X (pc := 32) (tgt := 255) (off := 223) dL_law_32 (by omega) (by omega) (by rw [h]; rfl) (by decide) ?_
          exact law_3 (a0 := 0) X hX hbl' hbA (by omega) h31 b a S hN kk
        · refine v_tswIn X (pc := 32) (tgt := 298) (off := 266) dL_law_32 (by omega) (by omega) (by rw [h]; rfl) (by decide) ?_
          exact law_4 (a0 := 0) X hX hbl' hbA (by omega) h31 b a S hN kk
        · refine v_tswIn X (pc := 32) (tgt := 357) (off := 325) dL_law_32 (by omega) (by omega) (by rw [h]; rfl) (by decide) ?_
          exact law_5 (a0 := 0) X hX hbl' hbA (by omega) h31 b a S hN kk
        · refine v_tswIn X (pc := 32) (tgt := 380) (off := 348) dL_law_32 (by omega) (by omega) (by rw [h]; rfl) (by decide) ?_
          exact law_6 (a0 := 0) X hX hbl' hbA (by omega) h31 b a S hN kk
        · refine v_tswIn X (pc := 32) (tgt := 403) (off := 371) dL_law_32 (by omega) (by omega) (by rw [h]; rfl) (by decide) ?_
          exact law_7 (a0 := 0) X hX hbl' hbA (by omega) h31 b a S hN kk
        · refine v_tswIn X (pc := 32) (tgt := 426) (off := 394) dL_law_32 (by omega) (by omega) (by rw [h]; rfl) (by decide) ?_
          exact law_8 (a0 := 0) X hX hbl' hbA (by omega) h31 b a S hN kk
        · refine v_tswIn X (pc := 32) (tgt := 449) (off := 417) dL_law_32 (by omega) (by omega) (by rw [h]; rfl) (by decide) ?_
          exact law_9 (a0 := 0) X hX hbl' hbA (by omega) h31 b a S hN kk
        · refine v_tswIn X (pc := 32) (tgt := 482) (off := 450) dL_law_32 (by omega) (by omega) (by rw [h]; rfl) (by decide) ?_
          exact law_10 (a0 := 0) X hX hbl' hbA (by omega) h31 b a S hN kk
        · refine v_tswIn X (pc := 32) (tgt := 505) (off := 473) dL_law_32 (by omega) (by omega) (by rw [h]; rfl) (by decide) ?_
          exact law_11 (a0 := 0) X hX hbl' hbA (by omega) h31 b a S hN kk
        · refine v_tswIn X (pc := 32) (tgt := 518) (off := 486) dL_law_32 (by omega) (by omega) (by rw [h]; rfl) (by decide) ?_
          exact law_12 (a0 := 0) X hX hbl' hbA (by omega) h31 b a S hN kk
        · refine v_tswIn X (pc := 32) (tgt := 531) (off := 499) dL_law_32 (by omega) (by omega) (by rw [h]; rfl) (by decide) ?_
          exact law_13 (a0 := 0) X hX hbl' hbA (by omega) h31 b a S hN kk
        · refine v_tswIn X (pc := 32) (tgt := 544) (off := 512) dL_law_32 (by omega) (by omega) (by rw [h]; rfl) (by decide) ?_
          exact law_14 (a0 := 0) X hX hbl' hbA (by omega) h31 b a S hN kk
        · refine v_tswIn X (pc := 32) (tgt := 557) (off := 525) dL_law_32 (by omega) (by omega) (by rw [h]; rfl) (by decide) ?_
          exact law_15 (a0 := 0) X hX hbl' hbA (by omega) h31 b a S hN kk
        · refine v_tswIn X (pc := 32) (tgt := 570) (off := 538) dL_law_32 (by omega) (by omega) (by rw [h]; rfl) (by decide) ?_
          exact law_16 (a0 := 0) X hX hbl' hbA (by omega) h31 b a S hN kk
        · refine v_tswIn X (pc := 32) (tgt := 583) (off := 551) dL_law_32 (by omega) (by omega) (by rw [h]; rfl) (by decide) ?_
          exact law_17 (a0 := 0) X hX hbl' hbA (by omega) h31 b a S hN kk
        · refine v_tswIn X (pc := 32) (tgt := 616) (off := 584) dL_law_32 (by omega) (by omega) (by rw [h]; rfl) (by decide) ?_
          exact law_18 (a0 := 0) X hX hbl' hbA (by omega) h31 b a S hN kk
        · refine v_tswIn X (pc := 32) (tgt := 649) (off := 617) dL_law_32 (by omega) (by omega) (by rw [h]; rfl) (by decide) ?_
          exact law_19 (a0 := 0) X hX hbl' hbA (by omega) h31 b a S hN kk
        · refine v_tswIn X (pc := 32) (tgt := 692) (off := 660) dL_law_32 (by omega) (by omega) (by rw [h]; rfl) (by decide) ?_
          exact law_20 (a0 := 0) X hX hbl' hbA (by omega) h31 b a S hN kk
        · refine v_tswIn X (pc := 32) (tgt := 751) (off := 719) dL_law_32 (by omega) (by omega) (by rw [h]; rfl) (by decide) ?_
          exact law_21 (a0 := 0) X hX hbl' hbA (by omega) h31 b a S hN kk
        · refine v_tswIn X (pc := 32) (tgt := 774) (off := 742) dL_law_32 (by omega) (by omega) (by rw [h]; rfl) (by decide) ?_
          exact law_22 (a0 := 0) X hX hbl' hbA (by omega) h31 b a S hN kk
        · refine v_tswIn X (pc := 32) (tgt := 797) (off := 765) dL_law_32 (by omega) (by omega) (by rw [h]; rfl) (by decide) ?_
          exact law_23 (a0 := 0) X hX hbl' hbA (by omega) h31 b a S hN kk
        · refine v_tswIn X (pc := 32) (tgt := 846) (off := 814) dL_law_32 (by omega) (by omega) (by rw [h]; rfl) (by decide) ?_
          exact law_24 (a0 := 0) X hX hbl' hbA (by omega) h31 b a S hN kk
        · refine v_tswIn X (pc := 32) (tgt := 859) (off := 827) dL_law_32 (by omega) (by omega) (by rw [h]; rfl) (by decide) ?_
          exact law_25 (a0 := 0) X hX hbl' hbA (by omega) h31 b a S hN kk
        · refine v_tswIn X (pc := 32) (tgt := 892) (off := 860) dL_law_32 (by omega) (by omega) (by rw [h]; rfl) (by decide) ?_
          exact law_26 (a0 := 0) (Ln := 0) X (s0 := s) (d0 := d0) rfl hd b a S (fun d1 hd1 => kA d1 hd1 hs n0 n1 n2 ζ η δ χ μ ⟨G, z, H, S.mono (by omega) (by omega)⟩)
      · exact v_tswOut X (pc := 32) (tgt := 933) dL_law_32 (by omega) (by decide) kS
