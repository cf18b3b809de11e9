set_option maxHeartbeats 8000000 in
set_option maxRecDepth 100000 in
theorem c_L_hangs (l : Launch) (g : Gl) (b : Nat → Nat → Nat) {N : Nat} {G : NB} {z : Nat} {H : Nat → NB} {P : Option NB} {hs : Int32} {n0 n1 : Blk} {ζ : Row} {η : Nat → Blk} (S : St N G z H P hs n0 n1 ζ η) (n2 : Blk) (δ : Row) (χ : Blk) : OkP l g yL_hangs cL_hangs 19 (some .boolean) 8 200 [.ref (b 11 0)] (wHS g b hs n0 n1 n2 ζ η δ χ) (some (.int (nI 1))) (fun w' => ∃ (n2' : Blk) (δ' : Row), w' = wHS g b hs n0 n1 n2' ζ η δ' χ) := by
  refine OkP.of RL (by decide) rfl (Nat.le_of_ble_eq_true rfl) (fun x hl hg X F => ?_)
  subst hg; subst hl
  have hR : 8 ≤ 8 ∧ 200 ≤ 200 := ⟨Nat.le_refl _, Nat.le_refl _⟩
  have hm := S.wf.2.1.1
  have nn := S.wf.1
  have pl := ppl_le S.wf
  have hc := cnt_le (abG G) (G 0 0)
  obtain ⟨h1, h2, h3⟩ := rms_in S.wf
  have E745 : ∀ (δ : Row), V x (wHS x.g b hs n0 n1 n2 ζ η δ χ) [(0, .ref (b 11 0)), (2, .int (nI (ppl G))), (9, .int (nI 1))] [] 745 := by
    intro δ
    by_cases hp : ppl G = 0
    · skip
      refine v_iload X (pc := 745) dL_hangs_745 2 rfl ?_
      refine v_ifeq X (pc := 747) (tgt := 800) dL_hangs_747 (by decide) (fun cc => absurd cc (by decide)) (fun _ => ?_)
      refine v_iload_n X (pc := 750) dL_hangs_750 rfl 1 rfl ?_
      refine v_ifne X (pc := 751) (tgt := 758) dL_hangs_751 (by decide) (fun cc => False.elim (cc (by rw [hp]; rfl))) (fun _ => ?_)
      refine v_iconst X (pc := 754) (v := nI 1) dL_hangs_754 (by decide) ?_
      refine v_goto X (pc := 755) (tgt := 759) dL_hangs_755 (by decide) ?_
      refine v_aload_n X (pc := 759) dL_hangs_759 rfl 0 rfl ?_
      refine r_fullness X hR S  (Nat.le_of_ble_eq_true rfl) dL_hangs_760 ?_
      refine v_dconst0 X (pc := 763) dL_hangs_763 ?_
      refine v_dcmp X (pc := 764) dL_hangs_764 ?_
      refine v_ifne X (pc := 765) (tgt := 772) dL_hangs_765 (by decide) (fun cc => False.elim (cc ((fp_zero h3 h1 h2).mpr hp))) (fun _ => ?_)
      refine v_iconst X (pc := 768) (v := nI 1) dL_hangs_768 (by decide) ?_
      refine v_goto X (pc := 769) (tgt := 773) dL_hangs_769 (by decide) ?_
      refine v_icmpne X (pc := 773) (tgt := 800) dL_hangs_773 (by decide) (fun cc => False.elim (cc rfl)) (fun _ => ?_)
      refine v_aload_n X (pc := 776) dL_hangs_776 rfl 0 rfl ?_
      refine r_fullness X hR S  (Nat.le_of_ble_eq_true rfl) dL_hangs_777 ?_
      refine v_dconst1 X (pc := 780) dL_hangs_780 ?_
      refine v_dcmp X (pc := 781) dL_hangs_781 ?_
      refine v_ifgt X (pc := 782) (tgt := 800) dL_hangs_782 (by decide) (fun cc => absurd cc (fp_one h3 h1 h2)) (fun _ => ?_)
      refine v_iload_n X (pc := 785) dL_hangs_785 rfl 1 rfl ?_
      refine v_ifgt X (pc := 786) (tgt := 796) dL_hangs_786 (by decide) (fun cc => False.elim ((by rw [hp] at cc; exact absurd cc (by decide)))) (fun _ => ?_)
      refine v_aload_n X (pc := 789) dL_hangs_789 rfl 0 rfl ?_
      refine r_emptyIn X hR S hp (Nat.le_of_ble_eq_true rfl) dL_hangs_790 (fun n2' δ' => ?_)
      refine v_ifne X (pc := 793) (tgt := 800) dL_hangs_793 (by decide) (fun cc => False.elim (cc rfl)) (fun _ => ?_)
      refine v_iconst X (pc := 796) (v := nI 1) dL_hangs_796 (by decide) ?_
      refine v_goto X (pc := 797) (tgt := 801) dL_hangs_797 (by decide) ?_
      exact v_zretP X (pc := 801) F ⟨_, _, rfl⟩ rfl dL_hangs_801
    · skip
      refine v_iload X (pc := 745) dL_hangs_745 2 rfl ?_
      refine v_ifeq X (pc := 747) (tgt := 800) dL_hangs_747 (by decide) (fun cc => absurd cc (by decide)) (fun _ => ?_)
      refine v_iload_n X (pc := 750) dL_hangs_750 rfl 1 rfl ?_
      refine v_ifne X (pc := 751) (tgt := 758) dL_hangs_751 (by decide) (fun _ => ?_) (fun cc => False.elim (hp ((nI_eq (by omega) (by decide)).mp (cc.trans e0))))
      refine v_iconst X (pc := 758) (v := nI 0) dL_hangs_758 (by decide) ?_
      refine v_aload_n X (pc := 759) dL_hangs_759 rfl 0 rfl ?_
      refine r_fullness X hR S  (Nat.le_of_ble_eq_true rfl) dL_hangs_760 ?_
      refine v_dconst0 X (pc := 763) dL_hangs_763 ?_
      refine v_dcmp X (pc := 764) dL_hangs_764 ?_
      refine v_ifne X (pc := 765) (tgt := 772) dL_hangs_765 (by decide) (fun _ => ?_) (fun cc => False.elim (hp ((fp_zero h3 h1 h2).mp cc)))
      refine v_iconst X (pc := 772) (v := nI 0) dL_hangs_772 (by decide) ?_
      refine v_icmpne X (pc := 773) (tgt := 800) dL_hangs_773 (by decide) (fun cc => False.elim (cc rfl)) (fun _ => ?_)
      refine v_aload_n X (pc := 776) dL_hangs_776 rfl 0 rfl ?_
      refine r_fullness X hR S  (Nat.le_of_ble_eq_true rfl) dL_hangs_777 ?_
      refine v_dconst1 X (pc := 780) dL_hangs_780 ?_
      refine v_dcmp X (pc := 781) dL_hangs_781 ?_
      refine v_ifgt X (pc := 782) (tgt := 800) dL_hangs_782 (by decide) (fun cc => absurd cc (fp_one h3 h1 h2)) (fun _ => ?_)
      refine v_iload_n X (pc := 785) dL_hangs_785 rfl 1 rfl ?_
      refine v_ifgt X (pc := 786) (tgt := 796) dL_hangs_786 (by decide) (fun _ => ?_) (fun cc => False.elim (cc (by rw [e0]; exact nI_lt (by omega) (by omega))))
      refine v_iconst X (pc := 796) (v := nI 1) dL_hangs_796 (by decide) ?_
      refine v_goto X (pc := 797) (tgt := 801) dL_hangs_797 (by decide) ?_
      exact v_zretP X (pc := 801) F ⟨_, _, rfl⟩ rfl dL_hangs_801
  have E652 : ∀ (δ : Row), V x (wHS x.g b hs n0 n1 n2 ζ η δ χ) [(0, .ref (b 11 0)), (2, .int (nI (ppl G))), (3, .int (ow G 5)), (4, .int (fo G 5)), (5, .int (nI (sm (gap G) (G 0 0)))), (6, .int (nI (cnt (abS G) (G 0 0 * 4)))), (7, .int (nI (cnt (abU G) (G 0 0)))), (8, .int (nI (cnt (abG G) (G 0 0)))), (9, .int (nI 1))] [] 652 := by
    intro δ
    refine v_iload X (pc := 652) dL_hangs_652 8 rfl ?_
    refine v_ifeq X (pc := 654) (tgt := 742) dL_hangs_654 (by decide) (fun cc => absurd cc (by decide)) (fun _ => ?_)
    refine v_aload_n X (pc := 657) dL_hangs_657 rfl 0 rfl ?_
    refine v_iload X (pc := 658) dL_hangs_658 7 rfl ?_
    refine r_worst X hR S (wr_out S n2 δ χ) (Nat.le_of_ble_eq_true rfl) dL_hangs_660 ?_
    refine v_ldc X (pc := 663) (v := (-100005)) q_528 dL_hangs_663 ?_
    refine v_icmpne X (pc := 665) (tgt := 742) dL_hangs_665 (by decide) (fun cc => False.elim (cc rfl)) (fun _ => ?_)
    refine v_aload_n X (pc := 668) dL_hangs_668 rfl 0 rfl ?_
    refine v_iconst X (pc := 669) (v := -1) dL_hangs_669 (by decide) ?_
    refine r_worstN X hR S  (Nat.le_of_ble_eq_true rfl) dL_hangs_670 ?_
    refine v_ldc X (pc := 673) (v := (-100002)) q_549 dL_hangs_673 ?_
    refine v_icmpne X (pc := 675) (tgt := 742) dL_hangs_675 (by decide) (fun cc => False.elim (cc rfl)) (fun _ => ?_)
    refine v_aload_n X (pc := 678) dL_hangs_678 rfl 0 rfl ?_
    refine v_iconst X (pc := 679) (v := nI 2) dL_hangs_679 (by decide) ?_
    refine r_count X hR S (by decide) (Nat.le_of_ble_eq_true rfl) dL_hangs_680 ?_
    refine v_iload X (pc := 683) dL_hangs_683 6 rfl ?_
    refine v_icmpne X (pc := 685) (tgt := 742) dL_hangs_685 (by decide) (fun cc => False.elim (cc rfl)) (fun _ => ?_)
    refine v_aload_n X (pc := 688) dL_hangs_688 rfl 0 rfl ?_
    refine v_iconst X (pc := 689) (v := nI 3) dL_hangs_689 (by decide) ?_
    refine r_count X hR S (by decide) (Nat.le_of_ble_eq_true rfl) dL_hangs_690 ?_
    refine v_iload_n X (pc := 693) dL_hangs_693 rfl 1 rfl ?_
    refine v_icmpne X (pc := 694) (tgt := 742) dL_hangs_694 (by decide) (fun cc => False.elim (cc rfl)) (fun _ => ?_)
    refine v_aload_n X (pc := 697) dL_hangs_697 rfl 0 rfl ?_
    refine v_iconst X (pc := 698) (v := nI 4) dL_hangs_698 (by decide) ?_
    refine r_count X hR S (by decide) (Nat.le_of_ble_eq_true rfl) dL_hangs_699 ?_
    refine v_iload_n X (pc := 702) dL_hangs_702 rfl 2 rfl ?_
    refine v_icmpne X (pc := 703) (tgt := 742) dL_hangs_703 (by decide) (fun cc => False.elim (cc (ct4 G))) (fun _ => ?_)
    refine v_aload_n X (pc := 706) dL_hangs_706 rfl 0 rfl ?_
    refine v_iconst X (pc := 707) (v := nI 5) dL_hangs_707 (by decide) ?_
    refine r_count X hR S (by decide) (Nat.le_of_ble_eq_true rfl) dL_hangs_708 ?_
    refine v_iload X (pc := 711) dL_hangs_711 3 rfl ?_
    refine v_icmpne X (pc := 713) (tgt := 742) dL_hangs_713 (by decide) (fun cc => False.elim (cc (ct5 G))) (fun _ => ?_)
    refine v_aload_n X (pc := 716) dL_hangs_716 rfl 0 rfl ?_
    refine v_bipush X (pc := 717) (v := nI 6) dL_hangs_717 (by decide) ?_
    refine r_count X hR S (by decide) (Nat.le_of_ble_eq_true rfl) dL_hangs_719 ?_
    refine v_iload X (pc := 722) dL_hangs_722 4 rfl ?_
    refine v_icmpne X (pc := 724) (tgt := 742) dL_hangs_724 (by decide) (fun cc => False.elim (cc rfl)) (fun _ => ?_)
    refine v_aload_n X (pc := 727) dL_hangs_727 rfl 0 rfl ?_
    refine v_bipush X (pc := 728) (v := nI 7) dL_hangs_728 (by decide) ?_
    refine r_count X hR S (by decide) (Nat.le_of_ble_eq_true rfl) dL_hangs_730 ?_
    refine v_iload X (pc := 733) dL_hangs_733 5 rfl ?_
    refine v_icmpne X (pc := 735) (tgt := 742) dL_hangs_735 (by decide) (fun cc => False.elim (cc (ct7 S.wf))) (fun _ => ?_)
    refine v_iconst X (pc := 738) (v := nI 1) dL_hangs_738 (by decide) ?_
    refine v_goto X (pc := 739) (tgt := 743) dL_hangs_739 (by decide) ?_
    refine v_istore X (pc := 743) (L2 := [(9, .int (nI 1)), (0, .ref (b 11 0)), (2, .int (nI (ppl G))), (3, .int (ow G 5)), (4, .int (fo G 5)), (5, .int (nI (sm (gap G) (G 0 0)))), (6, .int (nI (cnt (abS G) (G 0 0 * 4)))), (7, .int (nI (cnt (abU G) (G 0 0)))), (8, .int (nI (cnt (abG G) (G 0 0))))]) dL_hangs_743 (by decide) rfl ?_
    refine v_sub (L2 := [(0, .ref (b 11 0)), (2, .int (nI (ppl G))), (9, .int (nI 1))]) [1, 2, 0] rfl ?_
    exact E745 δ
  have L3 : ∀ (d k last : Nat) (δ : Row), k + d = cnt (abG G) (G 0 0) → (k = 0 ∨ ∃ j, j < G 0 0 ∧ cnt (ahd G j) (G 0 0) + 1 = k ∧ last = gap G j) → last ≤ 2 * N → V x (wHS x.g b hs n0 n1 n2 ζ η δ χ) [(0, .ref (b 11 0)), (2, .int (nI (ppl G))), (3, .int (ow G 5)), (4, .int (fo G 5)), (5, .int (nI (sm (gap G) (G 0 0)))), (6, .int (nI (cnt (abS G) (G 0 0 * 4)))), (7, .int (nI (cnt (abU G) (G 0 0)))), (8, .int (nI (cnt (abG G) (G 0 0)))), (9, .int (nI 1)), (10, .int (nI last)), (11, .int (nI k))] [] 593 := by
    intro d
    induction d with
    | zero =>
      intro k last δ hk hl hl2
      refine v_iload X (pc := 593) dL_hangs_593 10 rfl ?_
      refine v_iload X (pc := 595) dL_hangs_595 7 rfl ?_
      refine v_icmpge X (pc := 597) (tgt := 652) dL_hangs_597 (by decide) (fun _ => ?_) (fun cc => False.elim (cc (nI_le (by omega) (by omega))))
      refine v_sub (L2 := [(0, .ref (b 11 0)), (2, .int (nI (ppl G))), (3, .int (ow G 5)), (4, .int (fo G 5)), (5, .int (nI (sm (gap G) (G 0 0)))), (6, .int (nI (cnt (abS G) (G 0 0 * 4)))), (7, .int (nI (cnt (abU G) (G 0 0)))), (8, .int (nI (cnt (abG G) (G 0 0)))), (9, .int (nI 1))]) [0, 1, 2, 3, 4, 5, 6, 7, 8] rfl ?_
      exact E652 δ
    | succ d ih =>
      intro k last δ hk hl hl2
      obtain ⟨j, j1, j2, j3, f⟩ := wr_in S n2 δ χ (q := k) (by omega)
      have gj := gap_le S.wf (k := j) (by omega)
      have J635 : ∀ (δ : Row), V x (wHS x.g b hs n0 n1 n2 ζ η δ χ) [(0, .ref (b 11 0)), (2, .int (nI (ppl G))), (3, .int (ow G 5)), (4, .int (fo G 5)), (5, .int (nI (sm (gap G) (G 0 0)))), (6, .int (nI (cnt (abS G) (G 0 0 * 4)))), (7, .int (nI (cnt (abU G) (G 0 0)))), (8, .int (nI (cnt (abG G) (G 0 0)))), (9, .int (nI 1)), (10, .int (nI last)), (11, .int (nI k)), (12, .int (nI (gap G j)))] [] 635 := by
        intro δ
        refine v_iconst X (pc := 635) (v := nI 1) dL_hangs_635 (by decide) ?_
        refine v_goto X (pc := 636) (tgt := 640) dL_hangs_636 (by decide) ?_
        refine v_istore X (pc := 640) (L2 := [(9, .int (nI 1)), (0, .ref (b 11 0)), (2, .int (nI (ppl G))), (3, .int (ow G 5)), (4, .int (fo G 5)), (5, .int (nI (sm (gap G) (G 0 0)))), (6, .int (nI (cnt (abS G) (G 0 0 * 4)))), (7, .int (nI (cnt (abU G) (G 0 0)))), (8, .int (nI (cnt (abG G) (G 0 0)))), (10, .int (nI last)), (11, .int (nI k)), (12, .int (nI (gap G j)))]) dL_hangs_640 (by decide) rfl ?_
        refine v_iload X (pc := 642) dL_hangs_642 11 rfl ?_
        refine v_istore X (pc := 644) (L2 := [(10, .int (nI (gap G j))), (9, .int (nI 1)), (0, .ref (b 11 0)), (2, .int (nI (ppl G))), (3, .int (ow G 5)), (4, .int (fo G 5)), (5, .int (nI (sm (gap G) (G 0 0)))), (6, .int (nI (cnt (abS G) (G 0 0 * 4)))), (7, .int (nI (cnt (abU G) (G 0 0)))), (8, .int (nI (cnt (abG G) (G 0 0)))), (11, .int (nI k)), (12, .int (nI (gap G j)))]) dL_hangs_644 (by decide) rfl ?_
        refine v_iinc X (pc := 646) (v := nI (k + 1)) (L2 := [(11, .int (nI (k + 1))), (10, .int (nI (gap G j))), (9, .int (nI 1)), (0, .ref (b 11 0)), (2, .int (nI (ppl G))), (3, .int (ow G 5)), (4, .int (fo G 5)), (5, .int (nI (sm (gap G) (G 0 0)))), (6, .int (nI (cnt (abS G) (G 0 0 * 4)))), (7, .int (nI (cnt (abU G) (G 0 0)))), (8, .int (nI (cnt (abG G) (G 0 0)))), (12, .int (nI (gap G j)))]) dL_hangs_646 10 rfl (by rw [show Int32.ofInt 1 = nI 1 by decide, nI_add]) (by decide) rfl ?_
        refine v_goto X (pc := 649) (tgt := 593) dL_hangs_649 (by decide) ?_
        refine v_sub (L2 := [(0, .ref (b 11 0)), (2, .int (nI (ppl G))), (3, .int (ow G 5)), (4, .int (fo G 5)), (5, .int (nI (sm (gap G) (G 0 0)))), (6, .int (nI (cnt (abS G) (G 0 0 * 4)))), (7, .int (nI (cnt (abU G) (G 0 0)))), (8, .int (nI (cnt (abG G) (G 0 0)))), (9, .int (nI 1)), (10, .int (nI (gap G j))), (11, .int (nI (k + 1)))]) [3, 4, 5, 6, 7, 8, 9, 10, 2, 1, 0] rfl ?_
        exact ih (k + 1) (gap G j) δ (by omega) (.inr ⟨j, j1, by omega, rfl⟩) gj
      refine v_iload X (pc := 593) dL_hangs_593 10 rfl ?_
      refine v_iload X (pc := 595) dL_hangs_595 7 rfl ?_
      refine v_icmpge X (pc := 597) (tgt := 652) dL_hangs_597 (by decide) (fun cc => absurd cc (nI_ge (by omega) (by omega))) (fun _ => ?_)
      refine v_iload X (pc := 600) dL_hangs_600 8 rfl ?_
      refine v_ifeq X (pc := 602) (tgt := 652) dL_hangs_602 (by decide) (fun cc => absurd cc (by decide)) (fun _ => ?_)
      refine v_aload_n X (pc := 605) dL_hangs_605 rfl 0 rfl ?_
      refine v_aload_n X (pc := 606) dL_hangs_606 rfl 0 rfl ?_
      refine v_iload X (pc := 607) dL_hangs_607 10 rfl ?_
      refine r_worst X hR S f (Nat.le_of_ble_eq_true rfl) dL_hangs_609 ?_
      refine v_iconst X (pc := 612) (v := nI 4) dL_hangs_612 (by decide) ?_
      refine r_stileOf X hR S (by omega) (by decide) (Nat.le_of_ble_eq_true rfl) dL_hangs_613 ?_
      refine v_top (b := nI (gap G j)) (by unfold soI; rw [if_pos j1]; rfl) ?_
      refine v_istore X (pc := 616) (L2 := [(12, .int (nI (gap G j))), (0, .ref (b 11 0)), (2, .int (nI (ppl G))), (3, .int (ow G 5)), (4, .int (fo G 5)), (5, .int (nI (sm (gap G) (G 0 0)))), (6, .int (nI (cnt (abS G) (G 0 0 * 4)))), (7, .int (nI (cnt (abU G) (G 0 0)))), (8, .int (nI (cnt (abG G) (G 0 0)))), (9, .int (nI 1)), (10, .int (nI last)), (11, .int (nI k))]) dL_hangs_616 (by decide) rfl ?_
      refine v_iload X (pc := 618) dL_hangs_618 0 rfl ?_
      refine v_ifle X (pc := 620) (tgt := 639) dL_hangs_620 (by decide) (fun cc => False.elim ((by rw [e0] at cc; exact absurd cc (nI_ge j2 (by omega))))) (fun _ => ?_)
      refine v_iload X (pc := 623) dL_hangs_623 11 rfl ?_
      rcases hl with h0 | ⟨i, i1, i2, i3⟩
      · skip
        refine v_ifeq X (pc := 625) (tgt := 635) dL_hangs_625 (by decide) (fun _ => ?_) (fun cc => False.elim (cc (by rw [h0]; rfl)))
        refine v_sub (L2 := [(0, .ref (b 11 0)), (2, .int (nI (ppl G))), (3, .int (ow G 5)), (4, .int (fo G 5)), (5, .int (nI (sm (gap G) (G 0 0)))), (6, .int (nI (cnt (abS G) (G 0 0 * 4)))), (7, .int (nI (cnt (abU G) (G 0 0)))), (8, .int (nI (cnt (abG G) (G 0 0)))), (9, .int (nI 1)), (10, .int (nI last)), (11, .int (nI k)), (12, .int (nI (gap G j)))]) [1, 2, 3, 4, 5, 6, 7, 8, 9, 10, 11, 0] rfl ?_
        exact J635 δ
      · skip
        refine v_ifeq X (pc := 625) (tgt := 635) dL_hangs_625 (by decide) (fun cc => False.elim (absurd ((nI_eq (by omega) (by decide)).mp (cc.trans e0)) (by omega))) (fun _ => ?_)
        refine v_iload X (pc := 628) dL_hangs_628 0 rfl ?_
        refine v_iload X (pc := 630) dL_hangs_630 10 rfl ?_
        refine v_icmpgt X (pc := 632) (tgt := 639) dL_hangs_632 (by decide) (fun cc => absurd cc (nI_nlt (by rw [i3]; exact rank_srt j1 (by omega)) (by omega))) (fun _ => ?_)
        refine v_sub (L2 := [(0, .ref (b 11 0)), (2, .int (nI (ppl G))), (3, .int (ow G 5)), (4, .int (fo G 5)), (5, .int (nI (sm (gap G) (G 0 0)))), (6, .int (nI (cnt (abS G) (G 0 0 * 4)))), (7, .int (nI (cnt (abU G) (G 0 0)))), (8, .int (nI (cnt (abG G) (G 0 0)))), (9, .int (nI 1)), (10, .int (nI last)), (11, .int (nI k)), (12, .int (nI (gap G j)))]) [1, 2, 3, 4, 5, 6, 7, 8, 9, 10, 11, 0] rfl ?_
        exact J635 δ
  have L2 : ∀ (d k : Nat) (δ : Row), k + d = G 0 0 → V x (wHS x.g b hs n0 n1 n2 ζ η δ χ) [(0, .ref (b 11 0)), (1, .int (nI (G 0 0))), (2, .int (nI (ppl G))), (3, .int (ow G 5)), (4, .int (fo G 5)), (5, .int (nI (sm (gap G) k))), (6, .int (nI (cnt (abS G) (k * 4)))), (7, .int (nI (cnt (abU G) k))), (8, .int (nI (cnt (abG G) k))), (9, .int (nI 1)), (10, .int (nI k))] [] 173 := by
    intro d
    induction d with
    | zero =>
      intro k δ hk
      obtain rfl : k = G 0 0 := by omega
      refine v_iload X (pc := 173) dL_hangs_173 10 rfl ?_
      refine v_iload_n X (pc := 175) dL_hangs_175 rfl 1 rfl ?_
      refine v_icmpge X (pc := 176) (tgt := 587) dL_hangs_176 (by decide) (fun _ => ?_) (fun cc => False.elim (cc (nI_le (by omega) (by omega))))
      refine v_iconst X (pc := 587) (v := nI 0) dL_hangs_587 (by decide) ?_
      refine v_istore X (pc := 588) (L2 := [(10, .int (nI 0)), (0, .ref (b 11 0)), (1, .int (nI (G 0 0))), (2, .int (nI (ppl G))), (3, .int (ow G 5)), (4, .int (fo G 5)), (5, .int (nI (sm (gap G) (G 0 0)))), (6, .int (nI (cnt (abS G) (G 0 0 * 4)))), (7, .int (nI (cnt (abU G) (G 0 0)))), (8, .int (nI (cnt (abG G) (G 0 0)))), (9, .int (nI 1))]) dL_hangs_588 (by decide) rfl ?_
      refine v_iconst X (pc := 590) (v := nI 0) dL_hangs_590 (by decide) ?_
      refine v_istore X (pc := 591) (L2 := [(11, .int (nI 0)), (10, .int (nI 0)), (0, .ref (b 11 0)), (1, .int (nI (G 0 0))), (2, .int (nI (ppl G))), (3, .int (ow G 5)), (4, .int (fo G 5)), (5, .int (nI (sm (gap G) (G 0 0)))), (6, .int (nI (cnt (abS G) (G 0 0 * 4)))), (7, .int (nI (cnt (abU G) (G 0 0)))), (8, .int (nI (cnt (abG G) (G 0 0)))), (9, .int (nI 1))]) dL_hangs_591 (by decide) rfl ?_
      refine v_sub (L2 := [(0, .ref (b 11 0)), (2, .int (nI (ppl G))), (3, .int (ow G 5)), (4, .int (fo G 5)), (5, .int (nI (sm (gap G) (G 0 0)))), (6, .int (nI (cnt (abS G) (G 0 0 * 4)))), (7, .int (nI (cnt (abU G) (G 0 0)))), (8, .int (nI (cnt (abG G) (G 0 0)))), (9, .int (nI 1)), (10, .int (nI 0)), (11, .int (nI 0))]) [2, 4, 5, 6, 7, 8, 9, 10, 11, 1, 0] rfl ?_
      exact L3 (cnt (abG G) (G 0 0)) 0 0 δ (by omega) (.inl rfl) (by omega)
    | succ d ih =>
      intro k δ hk
      have gk := gap_le S.wf (k := k) (by omega)
      have k1 : k < G 0 0 := by omega
      have w0 := (S.wf.2.2.2.2.2.1 (k * 4 + 0) (by omega)).1
      have w1 := (S.wf.2.2.2.2.2.1 (k * 4 + 1) (by omega)).1
      have w2 := (S.wf.2.2.2.2.2.1 (k * 4 + 2) (by omega)).1
      have w3 := (S.wf.2.2.2.2.2.1 (k * 4 + 3) (by omega)).1
      have w6 := (S.wf.2.2.2.1 k (by omega)).2.2
      have S2 : ∀ (δ : Row), V x (wHS x.g b hs n0 n1 n2 ζ η δ χ) [(0, .ref (b 11 0)), (1, .int (nI (G 0 0))), (2, .int (nI (ppl G))), (3, .int (ow G 5)), (4, .int (fo G 5)), (5, .int (nI (sm (gap G) (k + 1)))), (6, .int (nI (cnt (abS G) (k * 4 + 4)))), (7, .int (nI (cnt (abU G) (k + 1)))), (8, .int (nI (cnt (abG G) (k + 1)))), (9, .int (nI 1)), (10, .int (nI k)), (12, .int (nI 2))] [] 326 := by
        intro δ
        refine v_iload X (pc := 326) dL_hangs_326 11 rfl ?_
        refine v_iconst X (pc := 328) (v := nI 2) dL_hangs_328 (by decide) ?_
        refine v_icmpge X (pc := 329) (tgt := 581) dL_hangs_329 (by decide) (fun _ => ?_) (fun cc => False.elim (cc (Int32.le_refl _)))
        refine v_iinc X (pc := 581) (v := nI (k + 1)) (L2 := [(10, .int (nI (k + 1))), (0, .ref (b 11 0)), (1, .int (nI (G 0 0))), (2, .int (nI (ppl G))), (3, .int (ow G 5)), (4, .int (fo G 5)), (5, .int (nI (sm (gap G) (k + 1)))), (6, .int (nI (cnt (abS G) (k * 4 + 4)))), (7, .int (nI (cnt (abU G) (k + 1)))), (8, .int (nI (cnt (abG G) (k + 1)))), (9, .int (nI 1)), (12, .int (nI 2))]) dL_hangs_581 10 rfl (by rw [show Int32.ofInt 1 = nI 1 by decide, nI_add]) (by decide) rfl ?_
        refine v_goto X (pc := 584) (tgt := 173) dL_hangs_584 (by decide) ?_
        have i := ih (k + 1) δ (by omega)
        rw [show (k + 1) * 4 = k * 4 + 4 by omega] at i
        refine v_sub (L2 := [(0, .ref (b 11 0)), (1, .int (nI (G 0 0))), (2, .int (nI (ppl G))), (3, .int (ow G 5)), (4, .int (fo G 5)), (5, .int (nI (sm (gap G) (k + 1)))), (6, .int (nI (cnt (abS G) (k * 4 + 4)))), (7, .int (nI (cnt (abU G) (k + 1)))), (8, .int (nI (cnt (abG G) (k + 1)))), (9, .int (nI 1)), (10, .int (nI (k + 1)))]) [1, 2, 3, 4, 5, 6, 7, 8, 9, 10, 0] rfl ?_
        exact i 
      have SD : ∀ (sd : Nat) (ff : Bool) (δ : Row), ((sd = 0 ∧ ff = true) ∨ (sd = 1 ∧ ff = false)) → (∀ δ : Row, V x (wHS x.g b hs n0 n1 n2 ζ η δ χ) [(0, .ref (b 11 0)), (1, .int (nI (G 0 0))), (2, .int (nI (ppl G))), (3, .int (ow G 5)), (4, .int (fo G 5)), (5, .int (nI (sm (gap G) (k + 1)))), (6, .int (nI (cnt (abS G) (k * 4 + 4)))), (7, .int (nI (cnt (abU G) (k + 1)))), (8, .int (nI (cnt (abG G) (k + 1)))), (9, .int (nI 1)), (10, .int (nI k)), (12, .int (nI (sd + 1)))] [] 326) → V x (wHS x.g b hs n0 n1 n2 ζ η δ χ) [(0, .ref (b 11 0)), (1, .int (nI (G 0 0))), (2, .int (nI (ppl G))), (3, .int (ow G 5)), (4, .int (fo G 5)), (5, .int (nI (sm (gap G) (k + 1)))), (6, .int (nI (cnt (abS G) (k * 4 + 4)))), (7, .int (nI (cnt (abU G) (k + 1)))), (8, .int (nI (cnt (abG G) (k + 1)))), (9, .int (nI 1)), (10, .int (nI k)), (12, .int (nI sd))] [] 326 := by
        intro sd ff δ hsd nxt
        obtain ⟨hb6, ha6⟩ := hb_lt S.wf (k := k) (by omega) ff
        obtain ⟨sb, sa⟩ := so_hb k1 hsd
        have ml := most_le G k ff 99
        obtain ⟨op, hop⟩ : ∃ op : Nat, (opn G k ff = true ∧ op = 1) ∨ (opn G k ff = false ∧ op = 0) := by
          cases opn G k ff
          · exact ⟨0, .inr ⟨rfl, rfl⟩⟩
          · exact ⟨1, .inl ⟨rfl, rfl⟩⟩
        have J568 : ∀ (δ : Row), V x (wHS x.g b hs n0 n1 n2 ζ η δ χ) [(0, .ref (b 11 0)), (1, .int (nI (G 0 0))), (2, .int (nI (ppl G))), (3, .int (ow G 5)), (4, .int (fo G 5)), (5, .int (nI (sm (gap G) (k + 1)))), (6, .int (nI (cnt (abS G) (k * 4 + 4)))), (7, .int (nI (cnt (abU G) (k + 1)))), (8, .int (nI (cnt (abG G) (k + 1)))), (9, .int (nI 1)), (10, .int (nI k)), (12, .int (nI sd)), (13, .int (nI (most G k ff 99))), (14, .int (nI (hb G k ff))), (15, .int (nI (ha G k ff))), (16, .int (nI op)), (17, .int (dv G (hb G k ff))), (18, .int (dv G (ha G k ff)))] [] 568 := by
          intro δ
          refine v_iconst X (pc := 568) (v := nI 1) dL_hangs_568 (by decide) ?_
          refine v_goto X (pc := 569) (tgt := 573) dL_hangs_569 (by decide) ?_
          refine v_istore X (pc := 573) (L2 := [(9, .int (nI 1)), (0, .ref (b 11 0)), (1, .int (nI (G 0 0))), (2, .int (nI (ppl G))), (3, .int (ow G 5)), (4, .int (fo G 5)), (5, .int (nI (sm (gap G) (k + 1)))), (6, .int (nI (cnt (abS G) (k * 4 + 4)))), (7, .int (nI (cnt (abU G) (k + 1)))), (8, .int (nI (cnt (abG G) (k + 1)))), (10, .int (nI k)), (12, .int (nI sd)), (13, .int (nI (most G k ff 99))), (14, .int (nI (hb G k ff))), (15, .int (nI (ha G k ff))), (16, .int (nI op)), (17, .int (dv G (hb G k ff))), (18, .int (dv G (ha G k ff)))]) dL_hangs_573 (by decide) rfl ?_
          refine v_iinc X (pc := 575) (v := nI (sd + 1)) (L2 := [(12, .int (nI (sd + 1))), (9, .int (nI 1)), (0, .ref (b 11 0)), (1, .int (nI (G 0 0))), (2, .int (nI (ppl G))), (3, .int (ow G 5)), (4, .int (fo G 5)), (5, .int (nI (sm (gap G) (k + 1)))), (6, .int (nI (cnt (abS G) (k * 4 + 4)))), (7, .int (nI (cnt (abU G) (k + 1)))), (8, .int (nI (cnt (abG G) (k + 1)))), (10, .int (nI k)), (13, .int (nI (most G k ff 99))), (14, .int (nI (hb G k ff))), (15, .int (nI (ha G k ff))), (16, .int (nI op)), (17, .int (dv G (hb G k ff))), (18, .int (dv G (ha G k ff)))]) dL_hangs_575 11 rfl (by rw [show Int32.ofInt 1 = nI 1 by decide, nI_add]) (by decide) rfl ?_
          refine v_goto X (pc := 578) (tgt := 326) dL_hangs_578 (by decide) ?_
          refine v_sub (L2 := [(0, .ref (b 11 0)), (1, .int (nI (G 0 0))), (2, .int (nI (ppl G))), (3, .int (ow G 5)), (4, .int (fo G 5)), (5, .int (nI (sm (gap G) (k + 1)))), (6, .int (nI (cnt (abS G) (k * 4 + 4)))), (7, .int (nI (cnt (abU G) (k + 1)))), (8, .int (nI (cnt (abG G) (k + 1)))), (9, .int (nI 1)), (10, .int (nI k)), (12, .int (nI (sd + 1)))]) [2, 3, 4, 5, 6, 7, 8, 9, 10, 1, 11, 0] rfl ?_
          exact nxt δ
        have J539 : ∀ (δ : Row), V x (wHS x.g b hs n0 n1 n2 ζ η δ χ) [(0, .ref (b 11 0)), (1, .int (nI (G 0 0))), (2, .int (nI (ppl G))), (3, .int (ow G 5)), (4, .int (fo G 5)), (5, .int (nI (sm (gap G) (k + 1)))), (6, .int (nI (cnt (abS G) (k * 4 + 4)))), (7, .int (nI (cnt (abU G) (k + 1)))), (8, .int (nI (cnt (abG G) (k + 1)))), (9, .int (nI 1)), (10, .int (nI k)), (12, .int (nI sd)), (13, .int (nI (most G k ff 99))), (14, .int (nI (hb G k ff))), (15, .int (nI (ha G k ff))), (16, .int (nI op)), (17, .int (dv G (hb G k ff))), (18, .int (dv G (ha G k ff)))] [] 539 := by
          intro δ
          refine v_iload X (pc := 539) dL_hangs_539 9 rfl ?_
          refine v_ifeq X (pc := 541) (tgt := 572) dL_hangs_541 (by decide) (fun cc => absurd cc (by decide)) (fun _ => ?_)
          refine v_iload X (pc := 544) dL_hangs_544 15 rfl ?_
          rcases hop with ⟨o1, rfl⟩ | ⟨o1, rfl⟩
          · skip
            refine v_ifeq X (pc := 546) (tgt := 568) dL_hangs_546 (by decide) (fun cc => absurd cc (by decide)) (fun _ => ?_)
            refine v_iload X (pc := 549) dL_hangs_549 17 rfl ?_
            have ed : edge G (hb G k ff) (ha G k ff) := ⟨k, ff, k1, o1, rfl, rfl⟩
            rcases dst_le G ha6 with q | q
            · skip
              have e1 := dst_edge hb6 ha6 ed q
              have e2 : dst G (hb G k ff) ≤ 5 := by { rcases dst_le G hb6 with t | t; exact t; omega }
              have dvb := dv_near hb6 e2
              have dva := dv_near ha6 q
              refine v_iflt X (pc := 551) (tgt := 568) dL_hangs_551 (by decide) (fun cc => False.elim ((by rw [dva] at cc; exact absurd cc (nI_pos (by omega))))) (fun _ => ?_)
              refine v_iload X (pc := 554) dL_hangs_554 16 rfl ?_
              refine v_iflt X (pc := 556) (tgt := 572) dL_hangs_556 (by decide) (fun cc => False.elim ((by rw [dvb] at cc; exact absurd cc (nI_pos (by omega))))) (fun _ => ?_)
              refine v_iload X (pc := 559) dL_hangs_559 16 rfl ?_
              refine v_iload X (pc := 561) dL_hangs_561 17 rfl ?_
              refine v_iconst X (pc := 563) (v := nI 1) dL_hangs_563 (by decide) ?_
              refine v_iadd X (pc := 564) dL_hangs_564 ?_
              refine v_icmpgt X (pc := 565) (tgt := 572) dL_hangs_565 (by decide) (fun cc => False.elim ((by rw [dva, dvb, nI_add] at cc; exact absurd cc (nI_nlt (by omega) (by omega))))) (fun _ => ?_)
              refine v_sub (L2 := [(0, .ref (b 11 0)), (1, .int (nI (G 0 0))), (2, .int (nI (ppl G))), (3, .int (ow G 5)), (4, .int (fo G 5)), (5, .int (nI (sm (gap G) (k + 1)))), (6, .int (nI (cnt (abS G) (k * 4 + 4)))), (7, .int (nI (cnt (abU G) (k + 1)))), (8, .int (nI (cnt (abG G) (k + 1)))), (9, .int (nI 1)), (10, .int (nI k)), (12, .int (nI sd)), (13, .int (nI (most G k ff 99))), (14, .int (nI (hb G k ff))), (15, .int (nI (ha G k ff))), (16, .int (nI 1)), (17, .int (dv G (hb G k ff))), (18, .int (dv G (ha G k ff)))]) [0, 1, 2, 3, 4, 5, 6, 7, 8, 9, 10, 11, 12, 13, 14, 15, 16, 17] rfl ?_
              exact J568 δ
            · skip
              refine v_iflt X (pc := 551) (tgt := 568) dL_hangs_551 (by decide) (fun _ => ?_) (fun cc => False.elim (cc (dv_far ha6 q)))
              refine v_sub (L2 := [(0, .ref (b 11 0)), (1, .int (nI (G 0 0))), (2, .int (nI (ppl G))), (3, .int (ow G 5)), (4, .int (fo G 5)), (5, .int (nI (sm (gap G) (k + 1)))), (6, .int (nI (cnt (abS G) (k * 4 + 4)))), (7, .int (nI (cnt (abU G) (k + 1)))), (8, .int (nI (cnt (abG G) (k + 1)))), (9, .int (nI 1)), (10, .int (nI k)), (12, .int (nI sd)), (13, .int (nI (most G k ff 99))), (14, .int (nI (hb G k ff))), (15, .int (nI (ha G k ff))), (16, .int (nI 1)), (17, .int (dv G (hb G k ff))), (18, .int (dv G (ha G k ff)))]) [0, 1, 2, 3, 4, 5, 6, 7, 8, 9, 10, 11, 12, 13, 14, 15, 16, 17] rfl ?_
              exact J568 δ
          · skip
            refine v_ifeq X (pc := 546) (tgt := 568) dL_hangs_546 (by decide) (fun _ => ?_) (fun cc => False.elim (cc (by decide)))
            refine v_sub (L2 := [(0, .ref (b 11 0)), (1, .int (nI (G 0 0))), (2, .int (nI (ppl G))), (3, .int (ow G 5)), (4, .int (fo G 5)), (5, .int (nI (sm (gap G) (k + 1)))), (6, .int (nI (cnt (abS G) (k * 4 + 4)))), (7, .int (nI (cnt (abU G) (k + 1)))), (8, .int (nI (cnt (abG G) (k + 1)))), (9, .int (nI 1)), (10, .int (nI k)), (12, .int (nI sd)), (13, .int (nI (most G k ff 99))), (14, .int (nI (hb G k ff))), (15, .int (nI (ha G k ff))), (16, .int (nI 0)), (17, .int (dv G (hb G k ff))), (18, .int (dv G (ha G k ff)))]) [0, 1, 2, 3, 4, 5, 6, 7, 8, 9, 10, 11, 12, 13, 14, 15, 16, 17] rfl ?_
            exact J568 δ
        have J537 : ∀ (δ : Row), V x (wHS x.g b hs n0 n1 n2 ζ η δ χ) [(0, .ref (b 11 0)), (1, .int (nI (G 0 0))), (2, .int (nI (ppl G))), (3, .int (ow G 5)), (4, .int (fo G 5)), (5, .int (nI (sm (gap G) (k + 1)))), (6, .int (nI (cnt (abS G) (k * 4 + 4)))), (7, .int (nI (cnt (abU G) (k + 1)))), (8, .int (nI (cnt (abG G) (k + 1)))), (9, .int (nI 1)), (10, .int (nI k)), (12, .int (nI sd)), (13, .int (nI (most G k ff 99))), (14, .int (nI (hb G k ff))), (15, .int (nI (ha G k ff))), (16, .int (nI op)), (17, .int (dv G (hb G k ff)))] [.int (dv G (ha G k ff))] 537 := by
          intro δ
          refine v_istore X (pc := 537) (L2 := [(18, .int (dv G (ha G k ff))), (0, .ref (b 11 0)), (1, .int (nI (G 0 0))), (2, .int (nI (ppl G))), (3, .int (ow G 5)), (4, .int (fo G 5)), (5, .int (nI (sm (gap G) (k + 1)))), (6, .int (nI (cnt (abS G) (k * 4 + 4)))), (7, .int (nI (cnt (abU G) (k + 1)))), (8, .int (nI (cnt (abG G) (k + 1)))), (9, .int (nI 1)), (10, .int (nI k)), (12, .int (nI sd)), (13, .int (nI (most G k ff 99))), (14, .int (nI (hb G k ff))), (15, .int (nI (ha G k ff))), (16, .int (nI op)), (17, .int (dv G (hb G k ff)))]) dL_hangs_537 (by decide) rfl ?_
          refine v_sub (L2 := [(0, .ref (b 11 0)), (1, .int (nI (G 0 0))), (2, .int (nI (ppl G))), (3, .int (ow G 5)), (4, .int (fo G 5)), (5, .int (nI (sm (gap G) (k + 1)))), (6, .int (nI (cnt (abS G) (k * 4 + 4)))), (7, .int (nI (cnt (abU G) (k + 1)))), (8, .int (nI (cnt (abG G) (k + 1)))), (9, .int (nI 1)), (10, .int (nI k)), (12, .int (nI sd)), (13, .int (nI (most G k ff 99))), (14, .int (nI (hb G k ff))), (15, .int (nI (ha G k ff))), (16, .int (nI op)), (17, .int (dv G (hb G k ff))), (18, .int (dv G (ha G k ff)))]) [1, 2, 3, 4, 5, 6, 7, 8, 9, 10, 11, 12, 13, 14, 15, 16, 17, 0] rfl ?_
          exact J539 δ
        have J519 : ∀ (δ : Row), V x (wHS x.g b hs n0 n1 n2 ζ η δ χ) [(0, .ref (b 11 0)), (1, .int (nI (G 0 0))), (2, .int (nI (ppl G))), (3, .int (ow G 5)), (4, .int (fo G 5)), (5, .int (nI (sm (gap G) (k + 1)))), (6, .int (nI (cnt (abS G) (k * 4 + 4)))), (7, .int (nI (cnt (abU G) (k + 1)))), (8, .int (nI (cnt (abG G) (k + 1)))), (9, .int (nI 1)), (10, .int (nI k)), (12, .int (nI sd)), (13, .int (nI (most G k ff 99))), (14, .int (nI (hb G k ff))), (15, .int (nI (ha G k ff))), (16, .int (nI op))] [.int (dv G (hb G k ff))] 519 := by
          intro δ
          refine v_istore X (pc := 519) (L2 := [(17, .int (dv G (hb G k ff))), (0, .ref (b 11 0)), (1, .int (nI (G 0 0))), (2, .int (nI (ppl G))), (3, .int (ow G 5)), (4, .int (fo G 5)), (5, .int (nI (sm (gap G) (k + 1)))), (6, .int (nI (cnt (abS G) (k * 4 + 4)))), (7, .int (nI (cnt (abU G) (k + 1)))), (8, .int (nI (cnt (abG G) (k + 1)))), (9, .int (nI 1)), (10, .int (nI k)), (12, .int (nI sd)), (13, .int (nI (most G k ff 99))), (14, .int (nI (hb G k ff))), (15, .int (nI (ha G k ff))), (16, .int (nI op))]) dL_hangs_519 (by decide) rfl ?_
          refine v_iload X (pc := 521) dL_hangs_521 15 rfl ?_
          by_cases hz : ha G k ff = 0
          · skip
            refine v_ifne X (pc := 523) (tgt := 530) dL_hangs_523 (by decide) (fun cc => False.elim (cc (by rw [hz]; rfl))) (fun _ => ?_)
            refine v_iconst X (pc := 526) (v := nI 0) dL_hangs_526 (by decide) ?_
            refine v_goto X (pc := 527) (tgt := 537) dL_hangs_527 (by decide) ?_
            refine v_top (b := dv G (ha G k ff)) (by unfold dv; rw [if_pos hz]) ?_
            refine v_sub (L2 := [(0, .ref (b 11 0)), (1, .int (nI (G 0 0))), (2, .int (nI (ppl G))), (3, .int (ow G 5)), (4, .int (fo G 5)), (5, .int (nI (sm (gap G) (k + 1)))), (6, .int (nI (cnt (abS G) (k * 4 + 4)))), (7, .int (nI (cnt (abU G) (k + 1)))), (8, .int (nI (cnt (abG G) (k + 1)))), (9, .int (nI 1)), (10, .int (nI k)), (12, .int (nI sd)), (13, .int (nI (most G k ff 99))), (14, .int (nI (hb G k ff))), (15, .int (nI (ha G k ff))), (16, .int (nI op)), (17, .int (dv G (hb G k ff)))]) [1, 2, 3, 4, 5, 6, 7, 8, 9, 10, 11, 12, 13, 14, 15, 16, 0] rfl ?_
            exact J537 δ
          · skip
            refine v_ifne X (pc := 523) (tgt := 530) dL_hangs_523 (by decide) (fun _ => ?_) (fun cc => False.elim (hz ((nI_eq (by omega) (by decide)).mp (cc.trans e0))))
            refine v_aload_n X (pc := 530) dL_hangs_530 rfl 1 rfl ?_
            refine v_iload X (pc := 531) dL_hangs_531 15 rfl ?_
            refine v_iconst X (pc := 533) (v := nI 4) dL_hangs_533 (by decide) ?_
            refine r_hall X hR S (by omega) (by omega) (by decide) (Nat.le_of_ble_eq_true rfl) dL_hangs_534 (fun δ => ?_)
            refine v_top (b := dv G (ha G k ff)) (by unfold dv; rw [if_neg hz]) ?_
            refine v_sub (L2 := [(0, .ref (b 11 0)), (1, .int (nI (G 0 0))), (2, .int (nI (ppl G))), (3, .int (ow G 5)), (4, .int (fo G 5)), (5, .int (nI (sm (gap G) (k + 1)))), (6, .int (nI (cnt (abS G) (k * 4 + 4)))), (7, .int (nI (cnt (abU G) (k + 1)))), (8, .int (nI (cnt (abG G) (k + 1)))), (9, .int (nI 1)), (10, .int (nI k)), (12, .int (nI sd)), (13, .int (nI (most G k ff 99))), (14, .int (nI (hb G k ff))), (15, .int (nI (ha G k ff))), (16, .int (nI op)), (17, .int (dv G (hb G k ff)))]) [1, 2, 3, 4, 5, 6, 7, 8, 9, 10, 11, 12, 13, 14, 15, 16, 0] rfl ?_
            exact J537 δ
        have J503 : ∀ (δ : Row), V x (wHS x.g b hs n0 n1 n2 ζ η δ χ) [(0, .ref (b 11 0)), (1, .int (nI (G 0 0))), (2, .int (nI (ppl G))), (3, .int (ow G 5)), (4, .int (fo G 5)), (5, .int (nI (sm (gap G) (k + 1)))), (6, .int (nI (cnt (abS G) (k * 4 + 4)))), (7, .int (nI (cnt (abU G) (k + 1)))), (8, .int (nI (cnt (abG G) (k + 1)))), (9, .int (nI 1)), (10, .int (nI k)), (12, .int (nI sd)), (13, .int (nI (most G k ff 99))), (14, .int (nI (hb G k ff))), (15, .int (nI (ha G k ff))), (16, .int (nI op))] [] 503 := by
          intro δ
          refine v_iload X (pc := 503) dL_hangs_503 13 rfl ?_
          by_cases hz : hb G k ff = 0
          · skip
            refine v_ifne X (pc := 505) (tgt := 512) dL_hangs_505 (by decide) (fun cc => False.elim (cc (by rw [hz]; rfl))) (fun _ => ?_)
            refine v_iconst X (pc := 508) (v := nI 0) dL_hangs_508 (by decide) ?_
            refine v_goto X (pc := 509) (tgt := 519) dL_hangs_509 (by decide) ?_
            refine v_top (b := dv G (hb G k ff)) (by unfold dv; rw [if_pos hz]) ?_
            refine v_sub (L2 := [(0, .ref (b 11 0)), (1, .int (nI (G 0 0))), (2, .int (nI (ppl G))), (3, .int (ow G 5)), (4, .int (fo G 5)), (5, .int (nI (sm (gap G) (k + 1)))), (6, .int (nI (cnt (abS G) (k * 4 + 4)))), (7, .int (nI (cnt (abU G) (k + 1)))), (8, .int (nI (cnt (abG G) (k + 1)))), (9, .int (nI 1)), (10, .int (nI k)), (12, .int (nI sd)), (13, .int (nI (most G k ff 99))), (14, .int (nI (hb G k ff))), (15, .int (nI (ha G k ff))), (16, .int (nI op))]) [0, 1, 2, 3, 4, 5, 6, 7, 8, 9, 10, 11, 12, 13, 14, 15] rfl ?_
            exact J519 δ
          · skip
            refine v_ifne X (pc := 505) (tgt := 512) dL_hangs_505 (by decide) (fun _ => ?_) (fun cc => False.elim (hz ((nI_eq (by omega) (by decide)).mp (cc.trans e0))))
            refine v_aload_n X (pc := 512) dL_hangs_512 rfl 0 rfl ?_
            refine v_iload X (pc := 513) dL_hangs_513 13 rfl ?_
            refine v_iconst X (pc := 515) (v := nI 4) dL_hangs_515 (by decide) ?_
            refine r_hall X hR S (by omega) (by omega) (by decide) (Nat.le_of_ble_eq_true rfl) dL_hangs_516 (fun δ => ?_)
            refine v_top (b := dv G (hb G k ff)) (by unfold dv; rw [if_neg hz]) ?_
            refine v_sub (L2 := [(0, .ref (b 11 0)), (1, .int (nI (G 0 0))), (2, .int (nI (ppl G))), (3, .int (ow G 5)), (4, .int (fo G 5)), (5, .int (nI (sm (gap G) (k + 1)))), (6, .int (nI (cnt (abS G) (k * 4 + 4)))), (7, .int (nI (cnt (abU G) (k + 1)))), (8, .int (nI (cnt (abG G) (k + 1)))), (9, .int (nI 1)), (10, .int (nI k)), (12, .int (nI sd)), (13, .int (nI (most G k ff 99))), (14, .int (nI (hb G k ff))), (15, .int (nI (ha G k ff))), (16, .int (nI op))]) [0, 1, 2, 3, 4, 5, 6, 7, 8, 9, 10, 11, 12, 13, 14, 15] rfl ?_
            exact J519 δ
        have J496 : ∀ (δ : Row), V x (wHS x.g b hs n0 n1 n2 ζ η δ χ) [(0, .ref (b 11 0)), (1, .int (nI (G 0 0))), (2, .int (nI (ppl G))), (3, .int (ow G 5)), (4, .int (fo G 5)), (5, .int (nI (sm (gap G) (k + 1)))), (6, .int (nI (cnt (abS G) (k * 4 + 4)))), (7, .int (nI (cnt (abU G) (k + 1)))), (8, .int (nI (cnt (abG G) (k + 1)))), (9, .int (nI 1)), (10, .int (nI k)), (12, .int (nI sd)), (13, .int (nI (most G k ff 99))), (14, .int (nI (hb G k ff))), (15, .int (nI (ha G k ff))), (16, .int (nI op))] [] 496 := by
          intro δ
          refine v_iconst X (pc := 496) (v := nI 1) dL_hangs_496 (by decide) ?_
          refine v_goto X (pc := 497) (tgt := 501) dL_hangs_497 (by decide) ?_
          refine v_istore X (pc := 501) (L2 := [(9, .int (nI 1)), (0, .ref (b 11 0)), (1, .int (nI (G 0 0))), (2, .int (nI (ppl G))), (3, .int (ow G 5)), (4, .int (fo G 5)), (5, .int (nI (sm (gap G) (k + 1)))), (6, .int (nI (cnt (abS G) (k * 4 + 4)))), (7, .int (nI (cnt (abU G) (k + 1)))), (8, .int (nI (cnt (abG G) (k + 1)))), (10, .int (nI k)), (12, .int (nI sd)), (13, .int (nI (most G k ff 99))), (14, .int (nI (hb G k ff))), (15, .int (nI (ha G k ff))), (16, .int (nI op))]) dL_hangs_501 (by decide) rfl ?_
          refine v_sub (L2 := [(0, .ref (b 11 0)), (1, .int (nI (G 0 0))), (2, .int (nI (ppl G))), (3, .int (ow G 5)), (4, .int (fo G 5)), (5, .int (nI (sm (gap G) (k + 1)))), (6, .int (nI (cnt (abS G) (k * 4 + 4)))), (7, .int (nI (cnt (abU G) (k + 1)))), (8, .int (nI (cnt (abG G) (k + 1)))), (9, .int (nI 1)), (10, .int (nI k)), (12, .int (nI sd)), (13, .int (nI (most G k ff 99))), (14, .int (nI (hb G k ff))), (15, .int (nI (ha G k ff))), (16, .int (nI op))]) [1, 2, 3, 4, 5, 6, 7, 8, 9, 0, 10, 11, 12, 13, 14, 15] rfl ?_
          exact J503 δ
        have J466 : ∀ δ : Row, V x (wHS x.g b hs n0 n1 n2 ζ η δ χ) [(0, .ref (b 11 0)), (1, .int (nI (G 0 0))), (2, .int (nI (ppl G))), (3, .int (ow G 5)), (4, .int (fo G 5)), (5, .int (nI (sm (gap G) (k + 1)))), (6, .int (nI (cnt (abS G) (k * 4 + 4)))), (7, .int (nI (cnt (abU G) (k + 1)))), (8, .int (nI (cnt (abG G) (k + 1)))), (9, .int (nI 1)), (10, .int (nI k)), (12, .int (nI sd)), (13, .int (nI (most G k ff 99))), (14, .int (nI (hb G k ff))), (15, .int (nI (ha G k ff))), (16, .int (nI op))] [] 466 := by
          intro δ
          by_cases h99 : most G k ff 99 = 99
          · skip
            refine v_iload X (pc := 466) dL_hangs_466 12 rfl ?_
            refine v_bipush X (pc := 468) (v := nI 99) dL_hangs_468 (by decide) ?_
            refine v_icmpeq X (pc := 470) (tgt := 496) dL_hangs_470 (by decide) (fun _ => ?_) (fun cc => False.elim (cc (by rw [h99])))
            refine v_sub (L2 := [(0, .ref (b 11 0)), (1, .int (nI (G 0 0))), (2, .int (nI (ppl G))), (3, .int (ow G 5)), (4, .int (fo G 5)), (5, .int (nI (sm (gap G) (k + 1)))), (6, .int (nI (cnt (abS G) (k * 4 + 4)))), (7, .int (nI (cnt (abU G) (k + 1)))), (8, .int (nI (cnt (abG G) (k + 1)))), (9, .int (nI 1)), (10, .int (nI k)), (12, .int (nI sd)), (13, .int (nI (most G k ff 99))), (14, .int (nI (hb G k ff))), (15, .int (nI (ha G k ff))), (16, .int (nI op))]) [0, 1, 2, 3, 4, 5, 6, 7, 8, 9, 10, 11, 12, 13, 14, 15] rfl ?_
            exact J496 δ
          · skip
            have wy := most_why1 (G := G) (k := k) (ff := ff) (by omega)
            have wl := why_le G k ff (most G k ff 99 + 1)
            have J486 : ∀ (δ : Row), V x (wHS x.g b hs n0 n1 n2 ζ η δ χ) [(0, .ref (b 11 0)), (1, .int (nI (G 0 0))), (2, .int (nI (ppl G))), (3, .int (ow G 5)), (4, .int (fo G 5)), (5, .int (nI (sm (gap G) (k + 1)))), (6, .int (nI (cnt (abS G) (k * 4 + 4)))), (7, .int (nI (cnt (abU G) (k + 1)))), (8, .int (nI (cnt (abG G) (k + 1)))), (9, .int (nI 1)), (10, .int (nI k)), (12, .int (nI sd)), (13, .int (nI (most G k ff 99))), (14, .int (nI (hb G k ff))), (15, .int (nI (ha G k ff))), (16, .int (nI op))] [.int (b2i ff), .int (nI k), .ref (b 11 0)] 486 := by
              intro δ
              refine v_iload X (pc := 486) dL_hangs_486 12 rfl ?_
              refine v_iconst X (pc := 488) (v := nI 1) dL_hangs_488 (by decide) ?_
              refine v_iadd X (pc := 489) dL_hangs_489 ?_
              refine v_top (b := nI (most G k ff 99 + 1)) (nI_add _ _) ?_
              refine r_reason X hR S k1 (by omega) (by omega) (Nat.le_of_ble_eq_true rfl) dL_hangs_490 ?_
              refine v_ifle X (pc := 493) (tgt := 500) dL_hangs_493 (by decide) (fun cc => False.elim ((by rw [e0] at cc; exact absurd cc (nI_ge wy (by omega))))) (fun _ => ?_)
              refine v_sub (L2 := [(0, .ref (b 11 0)), (1, .int (nI (G 0 0))), (2, .int (nI (ppl G))), (3, .int (ow G 5)), (4, .int (fo G 5)), (5, .int (nI (sm (gap G) (k + 1)))), (6, .int (nI (cnt (abS G) (k * 4 + 4)))), (7, .int (nI (cnt (abU G) (k + 1)))), (8, .int (nI (cnt (abG G) (k + 1)))), (9, .int (nI 1)), (10, .int (nI k)), (12, .int (nI sd)), (13, .int (nI (most G k ff 99))), (14, .int (nI (hb G k ff))), (15, .int (nI (ha G k ff))), (16, .int (nI op))]) [0, 1, 2, 3, 4, 5, 6, 7, 8, 9, 10, 11, 12, 13, 14, 15] rfl ?_
              exact J496 δ
            refine v_iload X (pc := 466) dL_hangs_466 12 rfl ?_
            refine v_bipush X (pc := 468) (v := nI 99) dL_hangs_468 (by decide) ?_
            refine v_icmpeq X (pc := 470) (tgt := 496) dL_hangs_470 (by decide) (fun cc => False.elim (h99 ((nI_eq (by omega) (by decide)).mp cc))) (fun _ => ?_)
            refine v_aload_n X (pc := 473) dL_hangs_473 rfl 0 rfl ?_
            refine v_iload X (pc := 474) dL_hangs_474 10 rfl ?_
            refine v_iload X (pc := 476) dL_hangs_476 11 rfl ?_
            rcases id hsd with ⟨q1, q2⟩ | ⟨q1, q2⟩
            · skip
              refine v_ifne X (pc := 478) (tgt := 485) dL_hangs_478 (by decide) (fun cc => False.elim (cc (by rw [q1]; rfl))) (fun _ => ?_)
              refine v_iconst X (pc := 481) (v := nI 1) dL_hangs_481 (by decide) ?_
              refine v_goto X (pc := 482) (tgt := 486) dL_hangs_482 (by decide) ?_
              refine v_top (b := b2i ff) (by rw [q2]; decide) ?_
              exact J486 δ
            · skip
              refine v_ifne X (pc := 478) (tgt := 485) dL_hangs_478 (by decide) (fun _ => ?_) (fun cc => False.elim (absurd (cc.symm.trans (by rw [q1])) (show ¬ (0 : Int32) = nI 1 by decide)))
              refine v_iconst X (pc := 485) (v := nI 0) dL_hangs_485 (by decide) ?_
              refine v_top (b := b2i ff) (by rw [q2]; decide) ?_
              exact J486 δ
        have J440 : ∀ δ : Row, V x (wHS x.g b hs n0 n1 n2 ζ η δ χ) [(0, .ref (b 11 0)), (1, .int (nI (G 0 0))), (2, .int (nI (ppl G))), (3, .int (ow G 5)), (4, .int (fo G 5)), (5, .int (nI (sm (gap G) (k + 1)))), (6, .int (nI (cnt (abS G) (k * 4 + 4)))), (7, .int (nI (cnt (abU G) (k + 1)))), (8, .int (nI (cnt (abG G) (k + 1)))), (9, .int (nI 1)), (10, .int (nI k)), (12, .int (nI sd)), (13, .int (nI (most G k ff 99))), (14, .int (nI (hb G k ff))), (15, .int (nI (ha G k ff))), (16, .int (nI op))] [] 440 := by
          intro δ
          by_cases h0 : most G k ff 99 = 0
          · skip
            refine v_iload X (pc := 440) dL_hangs_440 12 rfl ?_
            refine v_ifeq X (pc := 442) (tgt := 466) dL_hangs_442 (by decide) (fun _ => ?_) (fun cc => False.elim (cc (by rw [h0]; rfl)))
            refine v_sub (L2 := [(0, .ref (b 11 0)), (1, .int (nI (G 0 0))), (2, .int (nI (ppl G))), (3, .int (ow G 5)), (4, .int (fo G 5)), (5, .int (nI (sm (gap G) (k + 1)))), (6, .int (nI (cnt (abS G) (k * 4 + 4)))), (7, .int (nI (cnt (abU G) (k + 1)))), (8, .int (nI (cnt (abG G) (k + 1)))), (9, .int (nI 1)), (10, .int (nI k)), (12, .int (nI sd)), (13, .int (nI (most G k ff 99))), (14, .int (nI (hb G k ff))), (15, .int (nI (ha G k ff))), (16, .int (nI op))]) [0, 1, 2, 3, 4, 5, 6, 7, 8, 9, 10, 11, 12, 13, 14, 15] rfl ?_
            exact J466 δ
          · skip
            have wy := most_why0 (G := G) (k := k) (ff := ff) (by omega)
            have J458 : ∀ (δ : Row), V x (wHS x.g b hs n0 n1 n2 ζ η δ χ) [(0, .ref (b 11 0)), (1, .int (nI (G 0 0))), (2, .int (nI (ppl G))), (3, .int (ow G 5)), (4, .int (fo G 5)), (5, .int (nI (sm (gap G) (k + 1)))), (6, .int (nI (cnt (abS G) (k * 4 + 4)))), (7, .int (nI (cnt (abU G) (k + 1)))), (8, .int (nI (cnt (abG G) (k + 1)))), (9, .int (nI 1)), (10, .int (nI k)), (12, .int (nI sd)), (13, .int (nI (most G k ff 99))), (14, .int (nI (hb G k ff))), (15, .int (nI (ha G k ff))), (16, .int (nI op))] [.int (b2i ff), .int (nI k), .ref (b 11 0)] 458 := by
              intro δ
              refine v_iload X (pc := 458) dL_hangs_458 12 rfl ?_
              refine r_reason X hR S k1 (by omega) (by omega) (Nat.le_of_ble_eq_true rfl) dL_hangs_460 ?_
              refine v_ifne X (pc := 463) (tgt := 500) dL_hangs_463 (by decide) (fun cc => False.elim (cc (by rw [wy]; rfl))) (fun _ => ?_)
              refine v_sub (L2 := [(0, .ref (b 11 0)), (1, .int (nI (G 0 0))), (2, .int (nI (ppl G))), (3, .int (ow G 5)), (4, .int (fo G 5)), (5, .int (nI (sm (gap G) (k + 1)))), (6, .int (nI (cnt (abS G) (k * 4 + 4)))), (7, .int (nI (cnt (abU G) (k + 1)))), (8, .int (nI (cnt (abG G) (k + 1)))), (9, .int (nI 1)), (10, .int (nI k)), (12, .int (nI sd)), (13, .int (nI (most G k ff 99))), (14, .int (nI (hb G k ff))), (15, .int (nI (ha G k ff))), (16, .int (nI op))]) [0, 1, 2, 3, 4, 5, 6, 7, 8, 9, 10, 11, 12, 13, 14, 15] rfl ?_
              exact J466 δ
            refine v_iload X (pc := 440) dL_hangs_440 12 rfl ?_
            refine v_ifeq X (pc := 442) (tgt := 466) dL_hangs_442 (by decide) (fun cc => False.elim (h0 ((nI_eq (by omega) (by decide)).mp (cc.trans e0)))) (fun _ => ?_)
            refine v_aload_n X (pc := 445) dL_hangs_445 rfl 0 rfl ?_
            refine v_iload X (pc := 446) dL_hangs_446 10 rfl ?_
            refine v_iload X (pc := 448) dL_hangs_448 11 rfl ?_
            rcases id hsd with ⟨q1, q2⟩ | ⟨q1, q2⟩
            · skip
              refine v_ifne X (pc := 450) (tgt := 457) dL_hangs_450 (by decide) (fun cc => False.elim (cc (by rw [q1]; rfl))) (fun _ => ?_)
              refine v_iconst X (pc := 453) (v := nI 1) dL_hangs_453 (by decide) ?_
              refine v_goto X (pc := 454) (tgt := 458) dL_hangs_454 (by decide) ?_
              refine v_top (b := b2i ff) (by rw [q2]; decide) ?_
              exact J458 δ
            · skip
              refine v_ifne X (pc := 450) (tgt := 457) dL_hangs_450 (by decide) (fun _ => ?_) (fun cc => False.elim (absurd (cc.symm.trans (by rw [q1])) (show ¬ (0 : Int32) = nI 1 by decide)))
              refine v_iconst X (pc := 457) (v := nI 0) dL_hangs_457 (by decide) ?_
              refine v_top (b := b2i ff) (by rw [q2]; decide) ?_
              exact J458 δ
        have J416 : ∀ (δ : Row), V x (wHS x.g b hs n0 n1 n2 ζ η δ χ) [(0, .ref (b 11 0)), (1, .int (nI (G 0 0))), (2, .int (nI (ppl G))), (3, .int (ow G 5)), (4, .int (fo G 5)), (5, .int (nI (sm (gap G) (k + 1)))), (6, .int (nI (cnt (abS G) (k * 4 + 4)))), (7, .int (nI (cnt (abU G) (k + 1)))), (8, .int (nI (cnt (abG G) (k + 1)))), (9, .int (nI 1)), (10, .int (nI k)), (12, .int (nI sd)), (13, .int (nI (most G k ff 99))), (14, .int (nI (hb G k ff))), (15, .int (nI (ha G k ff)))] [.int (nI op)] 416 := by
          intro δ
          refine v_istore X (pc := 416) (L2 := [(16, .int (nI op)), (0, .ref (b 11 0)), (1, .int (nI (G 0 0))), (2, .int (nI (ppl G))), (3, .int (ow G 5)), (4, .int (fo G 5)), (5, .int (nI (sm (gap G) (k + 1)))), (6, .int (nI (cnt (abS G) (k * 4 + 4)))), (7, .int (nI (cnt (abU G) (k + 1)))), (8, .int (nI (cnt (abG G) (k + 1)))), (9, .int (nI 1)), (10, .int (nI k)), (12, .int (nI sd)), (13, .int (nI (most G k ff 99))), (14, .int (nI (hb G k ff))), (15, .int (nI (ha G k ff)))]) dL_hangs_416 (by decide) rfl ?_
          refine v_iload X (pc := 418) dL_hangs_418 13 rfl ?_
          refine v_iflt X (pc := 420) (tgt := 500) dL_hangs_420 (by decide) (fun cc => absurd cc (nI_pos (by omega))) (fun _ => ?_)
          refine v_iload X (pc := 423) dL_hangs_423 13 rfl ?_
          refine v_bipush X (pc := 425) (v := nI 99) dL_hangs_425 (by decide) ?_
          refine v_icmpgt X (pc := 427) (tgt := 500) dL_hangs_427 (by decide) (fun cc => absurd cc (nI_nlt (by omega) (by decide))) (fun _ => ?_)
          refine v_iload X (pc := 430) dL_hangs_430 0 rfl ?_
          rcases id hop with ⟨o1, o2⟩ | ⟨o1, o2⟩
          · skip
            refine v_ifne X (pc := 432) (tgt := 440) dL_hangs_432 (by decide) (fun _ => ?_) (fun cc => False.elim (absurd (cc.symm.trans (by rw [o2])) (show ¬ (0 : Int32) = nI 1 by decide)))
            refine v_sub (L2 := [(0, .ref (b 11 0)), (1, .int (nI (G 0 0))), (2, .int (nI (ppl G))), (3, .int (ow G 5)), (4, .int (fo G 5)), (5, .int (nI (sm (gap G) (k + 1)))), (6, .int (nI (cnt (abS G) (k * 4 + 4)))), (7, .int (nI (cnt (abU G) (k + 1)))), (8, .int (nI (cnt (abG G) (k + 1)))), (9, .int (nI 1)), (10, .int (nI k)), (12, .int (nI sd)), (13, .int (nI (most G k ff 99))), (14, .int (nI (hb G k ff))), (15, .int (nI (ha G k ff))), (16, .int (nI op))]) [1, 2, 3, 4, 5, 6, 7, 8, 9, 10, 11, 12, 13, 14, 15, 0] rfl ?_
            exact J440 δ
          · skip
            refine v_ifne X (pc := 432) (tgt := 440) dL_hangs_432 (by decide) (fun cc => False.elim (cc (by rw [o2]; rfl))) (fun _ => ?_)
            refine v_iload X (pc := 435) dL_hangs_435 13 rfl ?_
            refine v_ifne X (pc := 437) (tgt := 500) dL_hangs_437 (by decide) (fun cc => False.elim (cc (by rw [most_shut o1]; rfl))) (fun _ => ?_)
            refine v_sub (L2 := [(0, .ref (b 11 0)), (1, .int (nI (G 0 0))), (2, .int (nI (ppl G))), (3, .int (ow G 5)), (4, .int (fo G 5)), (5, .int (nI (sm (gap G) (k + 1)))), (6, .int (nI (cnt (abS G) (k * 4 + 4)))), (7, .int (nI (cnt (abU G) (k + 1)))), (8, .int (nI (cnt (abG G) (k + 1)))), (9, .int (nI 1)), (10, .int (nI k)), (12, .int (nI sd)), (13, .int (nI (most G k ff 99))), (14, .int (nI (hb G k ff))), (15, .int (nI (ha G k ff))), (16, .int (nI op))]) [1, 2, 3, 4, 5, 6, 7, 8, 9, 10, 11, 12, 13, 14, 15, 0] rfl ?_
            exact J440 δ
        have J377 : ∀ (δ : Row), V x (wHS x.g b hs n0 n1 n2 ζ η δ χ) [(0, .ref (b 11 0)), (1, .int (nI (G 0 0))), (2, .int (nI (ppl G))), (3, .int (ow G 5)), (4, .int (fo G 5)), (5, .int (nI (sm (gap G) (k + 1)))), (6, .int (nI (cnt (abS G) (k * 4 + 4)))), (7, .int (nI (cnt (abU G) (k + 1)))), (8, .int (nI (cnt (abG G) (k + 1)))), (9, .int (nI 1)), (10, .int (nI k)), (12, .int (nI sd)), (13, .int (nI (most G k ff 99))), (14, .int (nI (hb G k ff))), (15, .int (nI (ha G k ff)))] [] 377 := by
          intro δ
          have oi := op_in (G := G) (k := k) hsd
          have s3 : soI G k 3 = nI (G 6 k) := by unfold soI; rw [if_pos k1]; rfl
          have s2 : soI G k 2 = nI (G 5 k) := by unfold soI; rw [if_pos k1]; rfl
          refine v_aload_n X (pc := 377) dL_hangs_377 rfl 0 rfl ?_
          refine v_iload X (pc := 378) dL_hangs_378 10 rfl ?_
          refine v_iconst X (pc := 380) (v := nI 3) dL_hangs_380 (by decide) ?_
          refine r_stileOf X hR S (by omega) (by decide) (Nat.le_of_ble_eq_true rfl) dL_hangs_381 ?_
          refine v_top (b := nI (G 6 k)) (s3) ?_
          by_cases z6 : G 6 k = 0
          · skip
            refine v_ifne X (pc := 384) (tgt := 415) dL_hangs_384 (by decide) (fun cc => False.elim (cc (by rw [z6]; rfl))) (fun _ => ?_)
            refine v_aload_n X (pc := 387) dL_hangs_387 rfl 0 rfl ?_
            refine v_iload X (pc := 388) dL_hangs_388 10 rfl ?_
            refine v_iconst X (pc := 390) (v := nI 2) dL_hangs_390 (by decide) ?_
            refine r_stileOf X hR S (by omega) (by decide) (Nat.le_of_ble_eq_true rfl) dL_hangs_391 ?_
            refine v_top (b := nI (G 5 k)) (s2) ?_
            by_cases z5 : G 5 k = 0
            · skip
              have ov : op = 1 := by
                rcases hop with ⟨o1, o2⟩ | ⟨o1, o2⟩
                · exact o2
                · rw [oi.mpr ⟨z6, .inl z5⟩] at o1; cases o1
              refine v_ifeq X (pc := 394) (tgt := 411) dL_hangs_394 (by decide) (fun _ => ?_) (fun cc => False.elim (cc (by rw [z5]; rfl)))
              refine v_iconst X (pc := 411) (v := nI 1) dL_hangs_411 (by decide) ?_
              refine v_goto X (pc := 412) (tgt := 416) dL_hangs_412 (by decide) ?_
              refine v_top (b := nI op) (by rw [ov]) ?_
              exact J416 δ
            · skip
              refine v_ifeq X (pc := 394) (tgt := 411) dL_hangs_394 (by decide) (fun cc => False.elim (z5 ((nI_eq (by omega) (by decide)).mp (cc.trans e0)))) (fun _ => ?_)
              refine v_aload_n X (pc := 397) dL_hangs_397 rfl 0 rfl ?_
              refine v_iload X (pc := 398) dL_hangs_398 10 rfl ?_
              refine v_iconst X (pc := 400) (v := nI 2) dL_hangs_400 (by decide) ?_
              refine r_stileOf X hR S (by omega) (by decide) (Nat.le_of_ble_eq_true rfl) dL_hangs_401 ?_
              refine v_top (b := nI (G 5 k)) (s2) ?_
              refine v_iload X (pc := 404) dL_hangs_404 11 rfl ?_
              refine v_iconst X (pc := 406) (v := nI 1) dL_hangs_406 (by decide) ?_
              refine v_iadd X (pc := 407) dL_hangs_407 ?_
              by_cases zs : G 5 k = sd + 1
              · skip
                have ov : op = 1 := by
                  rcases hop with ⟨o1, o2⟩ | ⟨o1, o2⟩
                  · exact o2
                  · rw [oi.mpr ⟨z6, .inr zs⟩] at o1; cases o1
                refine v_icmpne X (pc := 408) (tgt := 415) dL_hangs_408 (by decide) (fun cc => False.elim (cc (by rw [zs, nI_add]))) (fun _ => ?_)
                refine v_iconst X (pc := 411) (v := nI 1) dL_hangs_411 (by decide) ?_
                refine v_goto X (pc := 412) (tgt := 416) dL_hangs_412 (by decide) ?_
                refine v_top (b := nI op) (by rw [ov]) ?_
                exact J416 δ
              · skip
                have ov : op = 0 := by
                  rcases hop with ⟨o1, o2⟩ | ⟨o1, o2⟩
                  · exact absurd (oi.mp o1) (fun t => by rcases t.2 with u | u; exact z5 u; exact zs u)
                  · exact o2
                refine v_icmpne X (pc := 408) (tgt := 415) dL_hangs_408 (by decide) (fun _ => ?_) (fun cc => False.elim (zs ((nI_eq (by omega) (by omega)).mp (cc.trans (nI_add _ _)))))
                refine v_iconst X (pc := 415) (v := nI 0) dL_hangs_415 (by decide) ?_
                refine v_top (b := nI op) (by rw [ov]) ?_
                exact J416 δ
          · skip
            have ov : op = 0 := by
              rcases hop with ⟨o1, o2⟩ | ⟨o1, o2⟩
              · exact absurd (oi.mp o1) (fun t => z6 t.1)
              · exact o2
            refine v_ifne X (pc := 384) (tgt := 415) dL_hangs_384 (by decide) (fun _ => ?_) (fun cc => False.elim (z6 ((nI_eq (by omega) (by decide)).mp (cc.trans e0))))
            refine v_iconst X (pc := 415) (v := nI 0) dL_hangs_415 (by decide) ?_
            refine v_top (b := nI op) (by rw [ov]) ?_
            exact J416 δ
        have J350 : ∀ (δ : Row), V x (wHS x.g b hs n0 n1 n2 ζ η δ χ) [(0, .ref (b 11 0)), (1, .int (nI (G 0 0))), (2, .int (nI (ppl G))), (3, .int (ow G 5)), (4, .int (fo G 5)), (5, .int (nI (sm (gap G) (k + 1)))), (6, .int (nI (cnt (abS G) (k * 4 + 4)))), (7, .int (nI (cnt (abU G) (k + 1)))), (8, .int (nI (cnt (abG G) (k + 1)))), (9, .int (nI 1)), (10, .int (nI k)), (12, .int (nI sd))] [.int (b2i ff), .int (nI k), .ref (b 11 0)] 350 := by
          intro δ
          refine r_most X hR S k1 (Nat.le_of_ble_eq_true rfl) dL_hangs_350 ?_
          refine v_istore X (pc := 353) (L2 := [(13, .int (nI (most G k ff 99))), (0, .ref (b 11 0)), (1, .int (nI (G 0 0))), (2, .int (nI (ppl G))), (3, .int (ow G 5)), (4, .int (fo G 5)), (5, .int (nI (sm (gap G) (k + 1)))), (6, .int (nI (cnt (abS G) (k * 4 + 4)))), (7, .int (nI (cnt (abU G) (k + 1)))), (8, .int (nI (cnt (abG G) (k + 1)))), (9, .int (nI 1)), (10, .int (nI k)), (12, .int (nI sd))]) dL_hangs_353 (by decide) rfl ?_
          refine v_aload_n X (pc := 355) dL_hangs_355 rfl 1 rfl ?_
          refine v_iload X (pc := 356) dL_hangs_356 11 rfl ?_
          refine v_iload X (pc := 358) dL_hangs_358 12 rfl ?_
          refine r_stileOf X hR S (by omega) (by omega) (Nat.le_of_ble_eq_true rfl) dL_hangs_360 ?_
          refine v_top (b := nI (hb G k ff)) (sb) ?_
          refine v_istore X (pc := 363) (L2 := [(14, .int (nI (hb G k ff))), (13, .int (nI (most G k ff 99))), (0, .ref (b 11 0)), (1, .int (nI (G 0 0))), (2, .int (nI (ppl G))), (3, .int (ow G 5)), (4, .int (fo G 5)), (5, .int (nI (sm (gap G) (k + 1)))), (6, .int (nI (cnt (abS G) (k * 4 + 4)))), (7, .int (nI (cnt (abU G) (k + 1)))), (8, .int (nI (cnt (abG G) (k + 1)))), (9, .int (nI 1)), (10, .int (nI k)), (12, .int (nI sd))]) dL_hangs_363 (by decide) rfl ?_
          refine v_aload_n X (pc := 365) dL_hangs_365 rfl 2 rfl ?_
          refine v_iload X (pc := 366) dL_hangs_366 12 rfl ?_
          refine v_iconst X (pc := 368) (v := nI 1) dL_hangs_368 (by decide) ?_
          refine v_iload X (pc := 369) dL_hangs_369 13 rfl ?_
          refine v_isub X (pc := 371) dL_hangs_371 ?_
          refine v_top (b := nI (1 - sd)) (nI_sub (by omega)) ?_
          refine r_stileOf X hR S (by omega) (by omega) (Nat.le_of_ble_eq_true rfl) dL_hangs_372 ?_
          refine v_top (b := nI (ha G k ff)) (sa) ?_
          refine v_istore X (pc := 375) (L2 := [(15, .int (nI (ha G k ff))), (14, .int (nI (hb G k ff))), (13, .int (nI (most G k ff 99))), (0, .ref (b 11 0)), (1, .int (nI (G 0 0))), (2, .int (nI (ppl G))), (3, .int (ow G 5)), (4, .int (fo G 5)), (5, .int (nI (sm (gap G) (k + 1)))), (6, .int (nI (cnt (abS G) (k * 4 + 4)))), (7, .int (nI (cnt (abU G) (k + 1)))), (8, .int (nI (cnt (abG G) (k + 1)))), (9, .int (nI 1)), (10, .int (nI k)), (12, .int (nI sd))]) dL_hangs_375 (by decide) rfl ?_
          refine v_sub (L2 := [(0, .ref (b 11 0)), (1, .int (nI (G 0 0))), (2, .int (nI (ppl G))), (3, .int (ow G 5)), (4, .int (fo G 5)), (5, .int (nI (sm (gap G) (k + 1)))), (6, .int (nI (cnt (abS G) (k * 4 + 4)))), (7, .int (nI (cnt (abU G) (k + 1)))), (8, .int (nI (cnt (abG G) (k + 1)))), (9, .int (nI 1)), (10, .int (nI k)), (12, .int (nI sd)), (13, .int (nI (most G k ff 99))), (14, .int (nI (hb G k ff))), (15, .int (nI (ha G k ff)))]) [3, 4, 5, 6, 7, 8, 9, 10, 11, 12, 13, 14, 2, 1, 0] rfl ?_
          exact J377 δ
        refine v_iload X (pc := 326) dL_hangs_326 11 rfl ?_
        refine v_iconst X (pc := 328) (v := nI 2) dL_hangs_328 (by decide) ?_
        refine v_icmpge X (pc := 329) (tgt := 581) dL_hangs_329 (by decide) (fun cc => absurd cc (nI_ge (by omega) (by decide))) (fun _ => ?_)
        refine v_iload X (pc := 332) dL_hangs_332 9 rfl ?_
        refine v_ifeq X (pc := 334) (tgt := 581) dL_hangs_334 (by decide) (fun cc => absurd cc (by decide)) (fun _ => ?_)
        refine v_aload_n X (pc := 337) dL_hangs_337 rfl 0 rfl ?_
        refine v_iload X (pc := 338) dL_hangs_338 10 rfl ?_
        refine v_iload X (pc := 340) dL_hangs_340 11 rfl ?_
        rcases id hsd with ⟨q1, q2⟩ | ⟨q1, q2⟩
        · skip
          refine v_ifne X (pc := 342) (tgt := 349) dL_hangs_342 (by decide) (fun cc => False.elim (cc (by rw [q1]; rfl))) (fun _ => ?_)
          refine v_iconst X (pc := 345) (v := nI 1) dL_hangs_345 (by decide) ?_
          refine v_goto X (pc := 346) (tgt := 350) dL_hangs_346 (by decide) ?_
          refine v_top (b := b2i ff) (by rw [q2]; decide) ?_
          exact J350 δ
        · skip
          refine v_ifne X (pc := 342) (tgt := 349) dL_hangs_342 (by decide) (fun _ => ?_) (fun cc => False.elim (absurd (cc.symm.trans (by rw [q1])) (show ¬ (0 : Int32) = nI 1 by decide)))
          refine v_iconst X (pc := 349) (v := nI 0) dL_hangs_349 (by decide) ?_
          refine v_top (b := b2i ff) (by rw [q2]; decide) ?_
          exact J350 δ
      have S0 : ∀ δ : Row, V x (wHS x.g b hs n0 n1 n2 ζ η δ χ) [(0, .ref (b 11 0)), (1, .int (nI (G 0 0))), (2, .int (nI (ppl G))), (3, .int (ow G 5)), (4, .int (fo G 5)), (5, .int (nI (sm (gap G) (k + 1)))), (6, .int (nI (cnt (abS G) (k * 4 + 4)))), (7, .int (nI (cnt (abU G) (k + 1)))), (8, .int (nI (cnt (abG G) (k + 1)))), (9, .int (nI 1)), (10, .int (nI k)), (12, .int (nI 0))] [] 326 := fun δ => SD 0 true δ (.inl ⟨rfl, rfl⟩) (fun δ => SD 1 false δ (.inr ⟨rfl, rfl⟩) (fun δ => S2 δ))
      have SL : ∀ (e c : Nat) (δ : Row), c + e = 4 → V x (wHS x.g b hs n0 n1 n2 ζ η δ χ) [(0, .ref (b 11 0)), (1, .int (nI (G 0 0))), (2, .int (nI (ppl G))), (3, .int (ow G 5)), (4, .int (fo G 5)), (5, .int (nI (sm (gap G) (k + 1)))), (6, .int (nI (cnt (abS G) (k * 4 + c)))), (7, .int (nI (cnt (abU G) (k + 1)))), (8, .int (nI (cnt (abG G) (k + 1)))), (9, .int (nI 1)), (10, .int (nI k)), (12, .int (nI c))] [] 289 := by
        intro e
        induction e with
        | zero =>
          intro c δ hc4
          obtain rfl : c = 4 := by omega
          refine v_iload X (pc := 289) dL_hangs_289 11 rfl ?_
          refine v_iconst X (pc := 291) (v := nI 4) dL_hangs_291 (by decide) ?_
          refine v_icmpge X (pc := 292) (tgt := 323) dL_hangs_292 (by decide) (fun _ => ?_) (fun cc => False.elim (cc (Int32.le_refl _)))
          refine v_iconst X (pc := 323) (v := nI 0) dL_hangs_323 (by decide) ?_
          refine v_istore X (pc := 324) (L2 := [(12, .int (nI 0)), (0, .ref (b 11 0)), (1, .int (nI (G 0 0))), (2, .int (nI (ppl G))), (3, .int (ow G 5)), (4, .int (fo G 5)), (5, .int (nI (sm (gap G) (k + 1)))), (6, .int (nI (cnt (abS G) (k * 4 + 4)))), (7, .int (nI (cnt (abU G) (k + 1)))), (8, .int (nI (cnt (abG G) (k + 1)))), (9, .int (nI 1)), (10, .int (nI k))]) dL_hangs_324 (by decide) rfl ?_
          refine v_sub (L2 := [(0, .ref (b 11 0)), (1, .int (nI (G 0 0))), (2, .int (nI (ppl G))), (3, .int (ow G 5)), (4, .int (fo G 5)), (5, .int (nI (sm (gap G) (k + 1)))), (6, .int (nI (cnt (abS G) (k * 4 + 4)))), (7, .int (nI (cnt (abU G) (k + 1)))), (8, .int (nI (cnt (abG G) (k + 1)))), (9, .int (nI 1)), (10, .int (nI k)), (12, .int (nI 0))]) [1, 2, 3, 4, 5, 6, 7, 8, 9, 10, 11, 0] rfl ?_
          exact S0 δ
        | succ e ih2 =>
          intro c δ hc4
          have w8 := (S.wf.2.2.2.2.2.1 (k * 4 + c) (by omega)).2.1
          have J315 : ∀ (δ : Row), V x (wHS x.g b hs n0 n1 n2 ζ η δ χ) [(0, .ref (b 11 0)), (1, .int (nI (G 0 0))), (2, .int (nI (ppl G))), (3, .int (ow G 5)), (4, .int (fo G 5)), (5, .int (nI (sm (gap G) (k + 1)))), (6, .int (nI (cnt (abS G) (k * 4 + c)))), (7, .int (nI (cnt (abU G) (k + 1)))), (8, .int (nI (cnt (abG G) (k + 1)))), (9, .int (nI 1)), (10, .int (nI k)), (12, .int (nI c))] [.int (nI (cnt (abS G) (k * 4 + c + 1)))] 315 := by
            intro δ
            refine v_istore X (pc := 315) (L2 := [(6, .int (nI (cnt (abS G) (k * 4 + c + 1)))), (0, .ref (b 11 0)), (1, .int (nI (G 0 0))), (2, .int (nI (ppl G))), (3, .int (ow G 5)), (4, .int (fo G 5)), (5, .int (nI (sm (gap G) (k + 1)))), (7, .int (nI (cnt (abU G) (k + 1)))), (8, .int (nI (cnt (abG G) (k + 1)))), (9, .int (nI 1)), (10, .int (nI k)), (12, .int (nI c))]) dL_hangs_315 (by decide) rfl ?_
            refine v_iinc X (pc := 317) (v := nI (c + 1)) (L2 := [(12, .int (nI (c + 1))), (6, .int (nI (cnt (abS G) (k * 4 + c + 1)))), (0, .ref (b 11 0)), (1, .int (nI (G 0 0))), (2, .int (nI (ppl G))), (3, .int (ow G 5)), (4, .int (fo G 5)), (5, .int (nI (sm (gap G) (k + 1)))), (7, .int (nI (cnt (abU G) (k + 1)))), (8, .int (nI (cnt (abG G) (k + 1)))), (9, .int (nI 1)), (10, .int (nI k))]) dL_hangs_317 11 rfl (by rw [show Int32.ofInt 1 = nI 1 by decide, nI_add]) (by decide) rfl ?_
            refine v_goto X (pc := 320) (tgt := 289) dL_hangs_320 (by decide) ?_
            refine v_sub (L2 := [(0, .ref (b 11 0)), (1, .int (nI (G 0 0))), (2, .int (nI (ppl G))), (3, .int (ow G 5)), (4, .int (fo G 5)), (5, .int (nI (sm (gap G) (k + 1)))), (6, .int (nI (cnt (abS G) (k * 4 + (c + 1))))), (7, .int (nI (cnt (abU G) (k + 1)))), (8, .int (nI (cnt (abG G) (k + 1)))), (9, .int (nI 1)), (10, .int (nI k)), (12, .int (nI (c + 1)))]) [2, 3, 4, 5, 6, 7, 1, 8, 9, 10, 11, 0] rfl ?_
            exact ih2 (c + 1) δ (by omega)
          refine v_iload X (pc := 289) dL_hangs_289 11 rfl ?_
          refine v_iconst X (pc := 291) (v := nI 4) dL_hangs_291 (by decide) ?_
          refine v_icmpge X (pc := 292) (tgt := 323) dL_hangs_292 (by decide) (fun cc => absurd cc (nI_ge (by omega) (by decide))) (fun _ => ?_)
          refine v_iload X (pc := 295) dL_hangs_295 6 rfl ?_
          refine v_aload_n X (pc := 297) dL_hangs_297 rfl 0 rfl ?_
          refine v_iload X (pc := 298) dL_hangs_298 10 rfl ?_
          refine v_iload X (pc := 300) dL_hangs_300 11 rfl ?_
          refine v_iconst X (pc := 302) (v := nI 1) dL_hangs_302 (by decide) ?_
          refine r_counter X hR S (by omega) (by omega) (by decide) (Nat.le_of_ble_eq_true rfl) dL_hangs_303 ?_
          refine v_top (b := nI (G 8 (k * 4 + c))) (by unfold coI; rw [if_pos k1]; rfl) ?_
          by_cases g8 : 0 < G 8 (k * 4 + c)
          · skip
            refine v_ifle X (pc := 306) (tgt := 313) dL_hangs_306 (by decide) (fun cc => False.elim ((by rw [e0] at cc; exact absurd cc (nI_ge g8 (by omega))))) (fun _ => ?_)
            refine v_iconst X (pc := 309) (v := nI 1) dL_hangs_309 (by decide) ?_
            refine v_goto X (pc := 310) (tgt := 314) dL_hangs_310 (by decide) ?_
            refine v_iadd X (pc := 314) dL_hangs_314 ?_
            refine v_top (b := nI (cnt (abS G) (k * 4 + c + 1))) (by rw [nI_add, cnt_s, if_pos (show abS G (k * 4 + c) = true from decide_eq_true g8)]) ?_
            exact J315 δ
          · skip
            refine v_ifle X (pc := 306) (tgt := 313) dL_hangs_306 (by decide) (fun _ => ?_) (fun cc => False.elim (cc (by rw [e0]; exact nI_le (by omega) (by decide))))
            refine v_iconst X (pc := 313) (v := nI 0) dL_hangs_313 (by decide) ?_
            refine v_iadd X (pc := 314) dL_hangs_314 ?_
            refine v_top (b := nI (cnt (abS G) (k * 4 + c + 1))) (by rw [nI_add, cnt_s, if_neg (show ¬ abS G (k * 4 + c) = true by simp [abS, g8])]) ?_
            exact J315 δ
      have J233 : ∀ (δ : Row), V x (wHS x.g b hs n0 n1 n2 ζ η δ χ) [(0, .ref (b 11 0)), (1, .int (nI (G 0 0))), (2, .int (nI (ppl G))), (3, .int (ow G 5)), (4, .int (fo G 5)), (5, .int (nI (sm (gap G) (k + 1)))), (6, .int (nI (cnt (abS G) (k * 4)))), (7, .int (nI (cnt (abU G) k))), (8, .int (nI (cnt (abG G) (k + 1)))), (9, .int (nI 1)), (10, .int (nI k)), (11, .int (nI (gap G k)))] [.int (nI (cnt (abU G) (k + 1)))] 233 := by
        intro δ
        refine v_istore X (pc := 233) (L2 := [(7, .int (nI (cnt (abU G) (k + 1)))), (0, .ref (b 11 0)), (1, .int (nI (G 0 0))), (2, .int (nI (ppl G))), (3, .int (ow G 5)), (4, .int (fo G 5)), (5, .int (nI (sm (gap G) (k + 1)))), (6, .int (nI (cnt (abS G) (k * 4)))), (8, .int (nI (cnt (abG G) (k + 1)))), (9, .int (nI 1)), (10, .int (nI k)), (11, .int (nI (gap G k)))]) dL_hangs_233 (by decide) rfl ?_
        refine v_iload X (pc := 235) dL_hangs_235 11 rfl ?_
        refine v_aload_n X (pc := 237) dL_hangs_237 rfl 1 rfl ?_
        refine v_iload X (pc := 238) dL_hangs_238 10 rfl ?_
        refine v_iconst X (pc := 240) (v := nI 0) dL_hangs_240 (by decide) ?_
        refine v_iconst X (pc := 241) (v := nI 0) dL_hangs_241 (by decide) ?_
        refine r_counter X hR S (by omega) (by decide) (by decide) (Nat.le_of_ble_eq_true rfl) dL_hangs_242 ?_
        refine v_top (b := nI (G 7 (k * 4 + 0))) (by unfold coI; rw [if_pos k1]; rfl) ?_
        refine v_aload_n X (pc := 245) dL_hangs_245 rfl 1 rfl ?_
        refine v_iload X (pc := 246) dL_hangs_246 10 rfl ?_
        refine v_iconst X (pc := 248) (v := nI 3) dL_hangs_248 (by decide) ?_
        refine v_iconst X (pc := 249) (v := nI 0) dL_hangs_249 (by decide) ?_
        refine r_counter X hR S (by omega) (by decide) (by decide) (Nat.le_of_ble_eq_true rfl) dL_hangs_250 ?_
        refine v_top (b := nI (G 7 (k * 4 + 3))) (by unfold coI; rw [if_pos k1]; rfl) ?_
        refine v_callS X (pc := 253) (st1 := [.int (nI (ds (G 7 (k * 4 + 0)) (G 7 (k * 4 + 3)))), .int (nI (gap G k))]) (w' := (wHS x.g b hs n0 n1 n2 ζ η δ χ)) [.int (nI (G 7 (k * 4 + 0))), .int (nI (G 7 (k * 4 + 3)))] [.int (nI (gap G k))] (c_L_apart x.l x.g (by omega) (by omega)) rfl rfl cw_L_apart q_529 q_530 ⟨by omega, by omega⟩ Fr.nil rfl (Nat.le_of_ble_eq_true rfl) dL_hangs_253 ?_
        refine v_aload_n X (pc := 256) dL_hangs_256 rfl 1 rfl ?_
        refine v_iload X (pc := 257) dL_hangs_257 10 rfl ?_
        refine v_iconst X (pc := 259) (v := nI 1) dL_hangs_259 (by decide) ?_
        refine v_iconst X (pc := 260) (v := nI 0) dL_hangs_260 (by decide) ?_
        refine r_counter X hR S (by omega) (by decide) (by decide) (Nat.le_of_ble_eq_true rfl) dL_hangs_261 ?_
        refine v_top (b := nI (G 7 (k * 4 + 1))) (by unfold coI; rw [if_pos k1]; rfl) ?_
        refine v_aload_n X (pc := 264) dL_hangs_264 rfl 1 rfl ?_
        refine v_iload X (pc := 265) dL_hangs_265 10 rfl ?_
        refine v_iconst X (pc := 267) (v := nI 2) dL_hangs_267 (by decide) ?_
        refine v_iconst X (pc := 268) (v := nI 0) dL_hangs_268 (by decide) ?_
        refine r_counter X hR S (by omega) (by decide) (by decide) (Nat.le_of_ble_eq_true rfl) dL_hangs_269 ?_
        refine v_top (b := nI (G 7 (k * 4 + 2))) (by unfold coI; rw [if_pos k1]; rfl) ?_
        refine v_callS X (pc := 272) (st1 := [.int (nI (ds (G 7 (k * 4 + 1)) (G 7 (k * 4 + 2)))), .int (nI (ds (G 7 (k * 4 + 0)) (G 7 (k * 4 + 3)))), .int (nI (gap G k))]) (w' := (wHS x.g b hs n0 n1 n2 ζ η δ χ)) [.int (nI (G 7 (k * 4 + 1))), .int (nI (G 7 (k * 4 + 2)))] [.int (nI (ds (G 7 (k * 4 + 0)) (G 7 (k * 4 + 3)))), .int (nI (gap G k))] (c_L_apart x.l x.g (by omega) (by omega)) rfl rfl cw_L_apart q_529 q_530 ⟨by omega, by omega⟩ Fr.nil rfl (Nat.le_of_ble_eq_true rfl) dL_hangs_272 ?_
        refine v_iadd X (pc := 275) dL_hangs_275 ?_
        refine v_top (b := nI (gap G k)) (nI_add _ _) ?_
        refine v_icmpne X (pc := 276) (tgt := 283) dL_hangs_276 (by decide) (fun cc => False.elim (cc rfl)) (fun _ => ?_)
        refine v_iconst X (pc := 279) (v := nI 1) dL_hangs_279 (by decide) ?_
        refine v_goto X (pc := 280) (tgt := 284) dL_hangs_280 (by decide) ?_
        refine v_istore X (pc := 284) (L2 := [(9, .int (nI 1)), (7, .int (nI (cnt (abU G) (k + 1)))), (0, .ref (b 11 0)), (1, .int (nI (G 0 0))), (2, .int (nI (ppl G))), (3, .int (ow G 5)), (4, .int (fo G 5)), (5, .int (nI (sm (gap G) (k + 1)))), (6, .int (nI (cnt (abS G) (k * 4)))), (8, .int (nI (cnt (abG G) (k + 1)))), (10, .int (nI k)), (11, .int (nI (gap G k)))]) dL_hangs_284 (by decide) rfl ?_
        refine v_iconst X (pc := 286) (v := nI 0) dL_hangs_286 (by decide) ?_
        refine v_istore X (pc := 287) (L2 := [(12, .int (nI 0)), (9, .int (nI 1)), (7, .int (nI (cnt (abU G) (k + 1)))), (0, .ref (b 11 0)), (1, .int (nI (G 0 0))), (2, .int (nI (ppl G))), (3, .int (ow G 5)), (4, .int (fo G 5)), (5, .int (nI (sm (gap G) (k + 1)))), (6, .int (nI (cnt (abS G) (k * 4)))), (8, .int (nI (cnt (abG G) (k + 1)))), (10, .int (nI k)), (11, .int (nI (gap G k)))]) dL_hangs_287 (by decide) rfl ?_
        refine v_sub (L2 := [(0, .ref (b 11 0)), (1, .int (nI (G 0 0))), (2, .int (nI (ppl G))), (3, .int (ow G 5)), (4, .int (fo G 5)), (5, .int (nI (sm (gap G) (k + 1)))), (6, .int (nI (cnt (abS G) (k * 4 + 0)))), (7, .int (nI (cnt (abU G) (k + 1)))), (8, .int (nI (cnt (abG G) (k + 1)))), (9, .int (nI 1)), (10, .int (nI k)), (12, .int (nI 0))]) [3, 4, 5, 6, 7, 8, 9, 2, 10, 1, 11, 0] rfl ?_
        exact SL 4 0 δ rfl
      have J213 : ∀ (δ : Row), V x (wHS x.g b hs n0 n1 n2 ζ η δ χ) [(0, .ref (b 11 0)), (1, .int (nI (G 0 0))), (2, .int (nI (ppl G))), (3, .int (ow G 5)), (4, .int (fo G 5)), (5, .int (nI (sm (gap G) (k + 1)))), (6, .int (nI (cnt (abS G) (k * 4)))), (7, .int (nI (cnt (abU G) k))), (8, .int (nI (cnt (abG G) k))), (9, .int (nI 1)), (10, .int (nI k)), (11, .int (nI (gap G k)))] [.int (nI (cnt (abG G) (k + 1)))] 213 := by
        intro δ
        refine v_istore X (pc := 213) (L2 := [(8, .int (nI (cnt (abG G) (k + 1)))), (0, .ref (b 11 0)), (1, .int (nI (G 0 0))), (2, .int (nI (ppl G))), (3, .int (ow G 5)), (4, .int (fo G 5)), (5, .int (nI (sm (gap G) (k + 1)))), (6, .int (nI (cnt (abS G) (k * 4)))), (7, .int (nI (cnt (abU G) k))), (9, .int (nI 1)), (10, .int (nI k)), (11, .int (nI (gap G k)))]) dL_hangs_213 (by decide) rfl ?_
        refine v_iload X (pc := 215) dL_hangs_215 8 rfl ?_
        refine v_aload_n X (pc := 217) dL_hangs_217 rfl 1 rfl ?_
        refine v_iload X (pc := 218) dL_hangs_218 10 rfl ?_
        refine v_iconst X (pc := 220) (v := nI 3) dL_hangs_220 (by decide) ?_
        refine r_stileOf X hR S (by omega) (by decide) (Nat.le_of_ble_eq_true rfl) dL_hangs_221 ?_
        refine v_top (b := nI (G 6 k)) (by unfold soI; rw [if_pos k1]; rfl) ?_
        by_cases g6 : 0 < G 6 k
        · skip
          refine v_ifle X (pc := 224) (tgt := 231) dL_hangs_224 (by decide) (fun cc => False.elim ((by rw [e0] at cc; exact absurd cc (nI_ge g6 (by omega))))) (fun _ => ?_)
          refine v_iconst X (pc := 227) (v := nI 1) dL_hangs_227 (by decide) ?_
          refine v_goto X (pc := 228) (tgt := 232) dL_hangs_228 (by decide) ?_
          refine v_iadd X (pc := 232) dL_hangs_232 ?_
          refine v_top (b := nI (cnt (abU G) (k + 1))) (by rw [nI_add, cnt_s, if_pos (show abU G k = true from decide_eq_true g6)]) ?_
          refine v_sub (L2 := [(0, .ref (b 11 0)), (1, .int (nI (G 0 0))), (2, .int (nI (ppl G))), (3, .int (ow G 5)), (4, .int (fo G 5)), (5, .int (nI (sm (gap G) (k + 1)))), (6, .int (nI (cnt (abS G) (k * 4)))), (7, .int (nI (cnt (abU G) k))), (8, .int (nI (cnt (abG G) (k + 1)))), (9, .int (nI 1)), (10, .int (nI k)), (11, .int (nI (gap G k)))]) [1, 2, 3, 4, 5, 6, 7, 8, 0, 9, 10, 11] rfl ?_
          exact J233 δ
        · skip
          refine v_ifle X (pc := 224) (tgt := 231) dL_hangs_224 (by decide) (fun _ => ?_) (fun cc => False.elim (cc (by rw [e0]; exact nI_le (by omega) (by decide))))
          refine v_iconst X (pc := 231) (v := nI 0) dL_hangs_231 (by decide) ?_
          refine v_iadd X (pc := 232) dL_hangs_232 ?_
          refine v_top (b := nI (cnt (abU G) (k + 1))) (by rw [nI_add, cnt_s, if_neg (show ¬ abU G k = true by simp [abU, g6])]) ?_
          refine v_sub (L2 := [(0, .ref (b 11 0)), (1, .int (nI (G 0 0))), (2, .int (nI (ppl G))), (3, .int (ow G 5)), (4, .int (fo G 5)), (5, .int (nI (sm (gap G) (k + 1)))), (6, .int (nI (cnt (abS G) (k * 4)))), (7, .int (nI (cnt (abU G) k))), (8, .int (nI (cnt (abG G) (k + 1)))), (9, .int (nI 1)), (10, .int (nI k)), (11, .int (nI (gap G k)))]) [1, 2, 3, 4, 5, 6, 7, 8, 0, 9, 10, 11] rfl ?_
          exact J233 δ
      refine v_iload X (pc := 173) dL_hangs_173 10 rfl ?_
      refine v_iload_n X (pc := 175) dL_hangs_175 rfl 1 rfl ?_
      refine v_icmpge X (pc := 176) (tgt := 587) dL_hangs_176 (by decide) (fun cc => absurd cc (nI_ge (by omega) (by omega))) (fun _ => ?_)
      refine v_iload X (pc := 179) dL_hangs_179 9 rfl ?_
      refine v_ifeq X (pc := 181) (tgt := 587) dL_hangs_181 (by decide) (fun cc => absurd cc (by decide)) (fun _ => ?_)
      refine v_aload_n X (pc := 184) dL_hangs_184 rfl 0 rfl ?_
      refine v_iload X (pc := 185) dL_hangs_185 10 rfl ?_
      refine v_iconst X (pc := 187) (v := nI 4) dL_hangs_187 (by decide) ?_
      refine r_stileOf X hR S (by omega) (by decide) (Nat.le_of_ble_eq_true rfl) dL_hangs_188 ?_
      refine v_top (b := nI (gap G k)) (by unfold soI; rw [if_pos k1]; rfl) ?_
      refine v_istore X (pc := 191) (L2 := [(11, .int (nI (gap G k))), (0, .ref (b 11 0)), (1, .int (nI (G 0 0))), (2, .int (nI (ppl G))), (3, .int (ow G 5)), (4, .int (fo G 5)), (5, .int (nI (sm (gap G) k))), (6, .int (nI (cnt (abS G) (k * 4)))), (7, .int (nI (cnt (abU G) k))), (8, .int (nI (cnt (abG G) k))), (9, .int (nI 1)), (10, .int (nI k))]) dL_hangs_191 (by decide) rfl ?_
      refine v_iload X (pc := 193) dL_hangs_193 6 rfl ?_
      refine v_iload X (pc := 195) dL_hangs_195 0 rfl ?_
      refine v_iadd X (pc := 197) dL_hangs_197 ?_
      refine v_top (b := nI (sm (gap G) (k + 1))) (nI_add _ _) ?_
      refine v_istore X (pc := 198) (L2 := [(5, .int (nI (sm (gap G) (k + 1)))), (11, .int (nI (gap G k))), (0, .ref (b 11 0)), (1, .int (nI (G 0 0))), (2, .int (nI (ppl G))), (3, .int (ow G 5)), (4, .int (fo G 5)), (6, .int (nI (cnt (abS G) (k * 4)))), (7, .int (nI (cnt (abU G) k))), (8, .int (nI (cnt (abG G) k))), (9, .int (nI 1)), (10, .int (nI k))]) dL_hangs_198 (by decide) rfl ?_
      refine v_iload X (pc := 200) dL_hangs_200 9 rfl ?_
      refine v_iload X (pc := 202) dL_hangs_202 1 rfl ?_
      by_cases gg : 0 < gap G k
      · skip
        refine v_ifle X (pc := 204) (tgt := 211) dL_hangs_204 (by decide) (fun cc => False.elim ((by rw [e0] at cc; exact absurd cc (nI_ge gg (by omega))))) (fun _ => ?_)
        refine v_iconst X (pc := 207) (v := nI 1) dL_hangs_207 (by decide) ?_
        refine v_goto X (pc := 208) (tgt := 212) dL_hangs_208 (by decide) ?_
        refine v_iadd X (pc := 212) dL_hangs_212 ?_
        refine v_top (b := nI (cnt (abG G) (k + 1))) (by rw [nI_add, cnt_s, if_pos (show abG G k = true from decide_eq_true gg)]) ?_
        refine v_sub (L2 := [(0, .ref (b 11 0)), (1, .int (nI (G 0 0))), (2, .int (nI (ppl G))), (3, .int (ow G 5)), (4, .int (fo G 5)), (5, .int (nI (sm (gap G) (k + 1)))), (6, .int (nI (cnt (abS G) (k * 4)))), (7, .int (nI (cnt (abU G) k))), (8, .int (nI (cnt (abG G) k))), (9, .int (nI 1)), (10, .int (nI k)), (11, .int (nI (gap G k)))]) [2, 3, 4, 5, 6, 0, 7, 8, 9, 10, 11, 1] rfl ?_
        exact J213 δ
      · skip
        refine v_ifle X (pc := 204) (tgt := 211) dL_hangs_204 (by decide) (fun _ => ?_) (fun cc => False.elim (cc (by rw [e0]; exact nI_le (by omega) (by decide))))
        refine v_iconst X (pc := 211) (v := nI 0) dL_hangs_211 (by decide) ?_
        refine v_iadd X (pc := 212) dL_hangs_212 ?_
        refine v_top (b := nI (cnt (abG G) (k + 1))) (by rw [nI_add, cnt_s, if_neg (show ¬ abG G k = true by simp [abG, gg])]) ?_
        refine v_sub (L2 := [(0, .ref (b 11 0)), (1, .int (nI (G 0 0))), (2, .int (nI (ppl G))), (3, .int (ow G 5)), (4, .int (fo G 5)), (5, .int (nI (sm (gap G) (k + 1)))), (6, .int (nI (cnt (abS G) (k * 4)))), (7, .int (nI (cnt (abU G) k))), (8, .int (nI (cnt (abG G) k))), (9, .int (nI 1)), (10, .int (nI k)), (11, .int (nI (gap G k)))]) [2, 3, 4, 5, 6, 0, 7, 8, 9, 10, 11, 1] rfl ?_
        exact J213 δ
  have L1 : ∀ (d j : Nat) (δ : Row), j + d = 5 → V x (wHS x.g b hs n0 n1 n2 ζ η δ χ) [(0, .ref (b 11 0)), (1, .int (nI (G 0 0))), (2, .int (nI (pa G j))), (3, .int (ow G j)), (4, .int (fo G j)), (5, .int (nI 0)), (6, .int (nI 0)), (7, .int (nI 0)), (8, .int (nI 0)), (9, .int (nI 1)), (10, .int (nI (j + 1)))] [] 52 := by
    intro d
    induction d with
    | zero =>
      intro j δ hj
      obtain rfl : j = 5 := by omega
      rw [pa5]
      refine v_iload X (pc := 52) dL_hangs_52 10 rfl ?_
      refine v_bipush X (pc := 54) (v := nI 6) dL_hangs_54 (by decide) ?_
      refine v_icmpge X (pc := 56) (tgt := 170) dL_hangs_56 (by decide) (fun _ => ?_) (fun cc => False.elim (cc (Int32.le_refl _)))
      refine v_iconst X (pc := 170) (v := nI 0) dL_hangs_170 (by decide) ?_
      refine v_istore X (pc := 171) (L2 := [(10, .int (nI 0)), (0, .ref (b 11 0)), (1, .int (nI (G 0 0))), (2, .int (nI (ppl G))), (3, .int (ow G 5)), (4, .int (fo G 5)), (5, .int (nI 0)), (6, .int (nI 0)), (7, .int (nI 0)), (8, .int (nI 0)), (9, .int (nI 1))]) dL_hangs_171 (by decide) rfl ?_
      refine v_sub (L2 := [(0, .ref (b 11 0)), (1, .int (nI (G 0 0))), (2, .int (nI (ppl G))), (3, .int (ow G 5)), (4, .int (fo G 5)), (5, .int (nI (sm (gap G) 0))), (6, .int (nI (cnt (abS G) (0 * 4)))), (7, .int (nI (cnt (abU G) 0))), (8, .int (nI (cnt (abG G) 0))), (9, .int (nI 1)), (10, .int (nI 0))]) [1, 2, 3, 4, 5, 6, 7, 8, 9, 10, 0] rfl ?_
      exact L2 (G 0 0) 0 δ (by omega)
    | succ d ih =>
      intro j δ hj
      have wr := S.wf.2.2.1 (j + 1) (by omega) (by omega)
      have J157 : ∀ (δ : Row), V x (wHS x.g b hs n0 n1 n2 ζ η δ χ) [(0, .ref (b 11 0)), (1, .int (nI (G 0 0))), (2, .int (nI (pa G (j + 1)))), (3, .int (ow G (j + 1))), (4, .int (fo G (j + 1))), (5, .int (nI 0)), (6, .int (nI 0)), (7, .int (nI 0)), (8, .int (nI 0)), (9, .int (nI 1)), (10, .int (nI (j + 1)))] [] 157 := by
        intro δ
        refine v_iconst X (pc := 157) (v := nI 1) dL_hangs_157 (by decide) ?_
        refine v_goto X (pc := 158) (tgt := 162) dL_hangs_158 (by decide) ?_
        refine v_istore X (pc := 162) (L2 := [(9, .int (nI 1)), (0, .ref (b 11 0)), (1, .int (nI (G 0 0))), (2, .int (nI (pa G (j + 1)))), (3, .int (ow G (j + 1))), (4, .int (fo G (j + 1))), (5, .int (nI 0)), (6, .int (nI 0)), (7, .int (nI 0)), (8, .int (nI 0)), (10, .int (nI (j + 1)))]) dL_hangs_162 (by decide) rfl ?_
        refine v_iinc X (pc := 164) (v := nI ((j + 1) + 1)) (L2 := [(10, .int (nI ((j + 1) + 1))), (9, .int (nI 1)), (0, .ref (b 11 0)), (1, .int (nI (G 0 0))), (2, .int (nI (pa G (j + 1)))), (3, .int (ow G (j + 1))), (4, .int (fo G (j + 1))), (5, .int (nI 0)), (6, .int (nI 0)), (7, .int (nI 0)), (8, .int (nI 0))]) dL_hangs_164 10 rfl (by rw [show Int32.ofInt 1 = nI 1 by decide, nI_add]) (by decide) rfl ?_
        refine v_goto X (pc := 167) (tgt := 52) dL_hangs_167 (by decide) ?_
        refine v_sub (L2 := [(0, .ref (b 11 0)), (1, .int (nI (G 0 0))), (2, .int (nI (pa G (j + 1)))), (3, .int (ow G (j + 1))), (4, .int (fo G (j + 1))), (5, .int (nI 0)), (6, .int (nI 0)), (7, .int (nI 0)), (8, .int (nI 0)), (9, .int (nI 1)), (10, .int (nI ((j + 1) + 1)))]) [2, 3, 4, 5, 6, 7, 8, 9, 10, 1, 0] rfl ?_
        exact ih (j + 1) δ (by omega)
      refine v_iload X (pc := 52) dL_hangs_52 10 rfl ?_
      refine v_bipush X (pc := 54) (v := nI 6) dL_hangs_54 (by decide) ?_
      refine v_icmpge X (pc := 56) (tgt := 170) dL_hangs_56 (by decide) (fun cc => absurd cc (nI_ge (by omega) (by decide))) (fun _ => ?_)
      refine v_iload X (pc := 59) dL_hangs_59 9 rfl ?_
      refine v_ifeq X (pc := 61) (tgt := 170) dL_hangs_61 (by decide) (fun cc => absurd cc (by decide)) (fun _ => ?_)
      refine v_iload_n X (pc := 64) dL_hangs_64 rfl 2 rfl ?_
      refine v_aload_n X (pc := 65) dL_hangs_65 rfl 0 rfl ?_
      refine v_iload X (pc := 66) dL_hangs_66 10 rfl ?_
      refine v_iconst X (pc := 68) (v := nI 1) dL_hangs_68 (by decide) ?_
      refine r_hall X hR S (by omega) (by omega) (by decide) (Nat.le_of_ble_eq_true rfl) dL_hangs_69 (fun δ => ?_)
      refine v_iadd X (pc := 72) dL_hangs_72 ?_
      refine v_top (b := nI (pa G (j + 1))) (nI_add _ _) ?_
      refine v_istore_n X (pc := 73) (L2 := [(2, .int (nI (pa G (j + 1)))), (0, .ref (b 11 0)), (1, .int (nI (G 0 0))), (3, .int (ow G j)), (4, .int (fo G j)), (5, .int (nI 0)), (6, .int (nI 0)), (7, .int (nI 0)), (8, .int (nI 0)), (9, .int (nI 1)), (10, .int (nI (j + 1)))]) dL_hangs_73 rfl (by decide) rfl ?_
      refine v_iload_n X (pc := 74) dL_hangs_74 rfl 3 rfl ?_
      refine v_aload_n X (pc := 75) dL_hangs_75 rfl 1 rfl ?_
      refine v_iload X (pc := 76) dL_hangs_76 10 rfl ?_
      refine v_iconst X (pc := 78) (v := nI 2) dL_hangs_78 (by decide) ?_
      refine r_hall X hR S (by omega) (by omega) (by decide) (Nat.le_of_ble_eq_true rfl) dL_hangs_79 (fun δ => ?_)
      refine v_iadd X (pc := 82) dL_hangs_82 ?_
      refine v_istore_n X (pc := 83) (L2 := [(3, .int ((ow G j) + (haI G (j + 1) 2))), (2, .int (nI (pa G (j + 1)))), (0, .ref (b 11 0)), (1, .int (nI (G 0 0))), (4, .int (fo G j)), (5, .int (nI 0)), (6, .int (nI 0)), (7, .int (nI 0)), (8, .int (nI 0)), (9, .int (nI 1)), (10, .int (nI (j + 1)))]) dL_hangs_83 rfl (by decide) rfl ?_
      refine v_iload X (pc := 84) dL_hangs_84 4 rfl ?_
      refine v_aload_n X (pc := 86) dL_hangs_86 rfl 2 rfl ?_
      refine v_iload X (pc := 87) dL_hangs_87 10 rfl ?_
      refine v_iconst X (pc := 89) (v := nI 3) dL_hangs_89 (by decide) ?_
      refine r_hall X hR S (by omega) (by omega) (by decide) (Nat.le_of_ble_eq_true rfl) dL_hangs_90 (fun δ => ?_)
      refine v_iadd X (pc := 93) dL_hangs_93 ?_
      refine v_istore X (pc := 94) (L2 := [(4, .int ((fo G j) + (haI G (j + 1) 3))), (3, .int ((ow G j) + (haI G (j + 1) 2))), (2, .int (nI (pa G (j + 1)))), (0, .ref (b 11 0)), (1, .int (nI (G 0 0))), (5, .int (nI 0)), (6, .int (nI 0)), (7, .int (nI 0)), (8, .int (nI 0)), (9, .int (nI 1)), (10, .int (nI (j + 1)))]) dL_hangs_94 (by decide) rfl ?_
      refine v_aload_n X (pc := 96) dL_hangs_96 rfl 3 rfl ?_
      refine v_iload X (pc := 97) dL_hangs_97 10 rfl ?_
      refine v_iconst X (pc := 99) (v := nI 1) dL_hangs_99 (by decide) ?_
      refine r_hall X hR S (by omega) (by omega) (by decide) (Nat.le_of_ble_eq_true rfl) dL_hangs_100 (fun δ => ?_)
      refine v_iflt X (pc := 103) (tgt := 161) dL_hangs_103 (by decide) (fun cc => absurd cc (nI_pos (by omega))) (fun _ => ?_)
      refine v_aload_n X (pc := 106) dL_hangs_106 rfl 3 rfl ?_
      refine v_iload X (pc := 107) dL_hangs_107 10 rfl ?_
      refine v_iconst X (pc := 109) (v := nI 1) dL_hangs_109 (by decide) ?_
      refine r_hall X hR S (by omega) (by omega) (by decide) (Nat.le_of_ble_eq_true rfl) dL_hangs_110 (fun δ => ?_)
      refine v_aload_n X (pc := 113) dL_hangs_113 rfl 3 rfl ?_
      refine v_iload X (pc := 114) dL_hangs_114 10 rfl ?_
      refine v_iconst X (pc := 116) (v := nI 0) dL_hangs_116 (by decide) ?_
      refine r_hall X hR S (by omega) (by omega) (by decide) (Nat.le_of_ble_eq_true rfl) dL_hangs_117 (fun δ => ?_)
      refine v_icmpgt X (pc := 120) (tgt := 161) dL_hangs_120 (by decide) (fun cc => absurd cc (nI_nlt wr.2.2 (by omega))) (fun _ => ?_)
      refine v_aload_n X (pc := 123) dL_hangs_123 rfl 3 rfl ?_
      refine v_iload X (pc := 124) dL_hangs_124 10 rfl ?_
      refine v_iconst X (pc := 126) (v := nI 4) dL_hangs_126 (by decide) ?_
      refine r_hall X hR S (by omega) (by omega) (by decide) (Nat.le_of_ble_eq_true rfl) dL_hangs_127 (fun δ => ?_)
      refine v_ldc X (pc := 130) (v := (-100005)) q_528 dL_hangs_130 ?_
      rcases dst_le G (h := j + 1) (by omega) with q | q
      · skip
        have hp := dst_pos (G := G) (h := j + 1) (by omega) (by omega)
        have h4 : haI G (j + 1) 4 = nI (dst G (j + 1)) := by unfold haI; rw [if_neg (show ¬ dst G (j + 1) = 1000 by omega)]; rfl
        have h4n : ¬ haI G (j + 1) 4 = -100005 := by
          rw [h4]; intro t
          have t2 : (0 : Int32) ≤ -100005 := by rw [← t, e0]; exact nI_le (by omega) (by omega)
          exact absurd t2 (by decide)
        refine v_icmpeq X (pc := 132) (tgt := 157) dL_hangs_132 (by decide) (fun cc => absurd cc (h4n)) (fun _ => ?_)
        refine v_aload_n X (pc := 135) dL_hangs_135 rfl 3 rfl ?_
        refine v_iload X (pc := 136) dL_hangs_136 10 rfl ?_
        refine v_iconst X (pc := 138) (v := nI 4) dL_hangs_138 (by decide) ?_
        refine r_hall X hR S (by omega) (by omega) (by decide) (Nat.le_of_ble_eq_true rfl) dL_hangs_139 (fun δ => ?_)
        refine v_ifle X (pc := 142) (tgt := 161) dL_hangs_142 (by decide) (fun cc => False.elim ((by rw [h4, e0] at cc; exact absurd cc (nI_ge hp (by omega))))) (fun _ => ?_)
        refine v_aload_n X (pc := 145) dL_hangs_145 rfl 3 rfl ?_
        refine v_iload X (pc := 146) dL_hangs_146 10 rfl ?_
        refine v_iconst X (pc := 148) (v := nI 4) dL_hangs_148 (by decide) ?_
        refine r_hall X hR S (by omega) (by omega) (by decide) (Nat.le_of_ble_eq_true rfl) dL_hangs_149 (fun δ => ?_)
        refine v_bipush X (pc := 152) (v := nI 6) dL_hangs_152 (by decide) ?_
        refine v_icmpge X (pc := 154) (tgt := 161) dL_hangs_154 (by decide) (fun cc => False.elim ((by rw [h4] at cc; exact absurd cc (nI_ge (by omega) (by decide))))) (fun _ => ?_)
        refine v_sub (L2 := [(0, .ref (b 11 0)), (1, .int (nI (G 0 0))), (2, .int (nI (pa G (j + 1)))), (3, .int (ow G (j + 1))), (4, .int (fo G (j + 1))), (5, .int (nI 0)), (6, .int (nI 0)), (7, .int (nI 0)), (8, .int (nI 0)), (9, .int (nI 1)), (10, .int (nI (j + 1)))]) [3, 4, 2, 1, 0, 5, 6, 7, 8, 9, 10] rfl ?_
        exact J157 δ
      · skip
        refine v_icmpeq X (pc := 132) (tgt := 157) dL_hangs_132 (by decide) (fun _ => ?_) (fun cc => False.elim (cc (by unfold haI; rw [if_pos q]; rfl)))
        refine v_sub (L2 := [(0, .ref (b 11 0)), (1, .int (nI (G 0 0))), (2, .int (nI (pa G (j + 1)))), (3, .int (ow G (j + 1))), (4, .int (fo G (j + 1))), (5, .int (nI 0)), (6, .int (nI 0)), (7, .int (nI 0)), (8, .int (nI 0)), (9, .int (nI 1)), (10, .int (nI (j + 1)))]) [3, 4, 2, 1, 0, 5, 6, 7, 8, 9, 10] rfl ?_
        exact J157 δ
  show V x (wHS x.g b hs n0 n1 n2 ζ η δ χ) [(0, .ref (b 11 0))] [] 0
  refine v_aload_n X (pc := 0) dL_hangs_0 rfl 0 rfl ?_
  refine v_iconst X (pc := 1) (v := nI 1) dL_hangs_1 (by decide) ?_
  refine r_count X hR S (by decide) (Nat.le_of_ble_eq_true rfl) dL_hangs_2 ?_
  refine v_top (b := nI (G 0 0)) (rfl) ?_
  refine v_istore_n X (pc := 5) (L2 := [(1, .int (nI (G 0 0))), (0, .ref (b 11 0))]) dL_hangs_5 rfl (by decide) rfl ?_
  refine v_iconst X (pc := 6) (v := nI 0) dL_hangs_6 (by decide) ?_
  refine v_istore_n X (pc := 7) (L2 := [(2, .int (nI 0)), (1, .int (nI (G 0 0))), (0, .ref (b 11 0))]) dL_hangs_7 rfl (by decide) rfl ?_
  refine v_iconst X (pc := 8) (v := nI 0) dL_hangs_8 (by decide) ?_
  refine v_istore_n X (pc := 9) (L2 := [(3, .int (nI 0)), (2, .int (nI 0)), (1, .int (nI (G 0 0))), (0, .ref (b 11 0))]) dL_hangs_9 rfl (by decide) rfl ?_
  refine v_iconst X (pc := 10) (v := nI 0) dL_hangs_10 (by decide) ?_
  refine v_istore X (pc := 11) (L2 := [(4, .int (nI 0)), (3, .int (nI 0)), (2, .int (nI 0)), (1, .int (nI (G 0 0))), (0, .ref (b 11 0))]) dL_hangs_11 (by decide) rfl ?_
  refine v_iconst X (pc := 13) (v := nI 0) dL_hangs_13 (by decide) ?_
  refine v_istore X (pc := 14) (L2 := [(5, .int (nI 0)), (4, .int (nI 0)), (3, .int (nI 0)), (2, .int (nI 0)), (1, .int (nI (G 0 0))), (0, .ref (b 11 0))]) dL_hangs_14 (by decide) rfl ?_
  refine v_iconst X (pc := 16) (v := nI 0) dL_hangs_16 (by decide) ?_
  refine v_istore X (pc := 17) (L2 := [(6, .int (nI 0)), (5, .int (nI 0)), (4, .int (nI 0)), (3, .int (nI 0)), (2, .int (nI 0)), (1, .int (nI (G 0 0))), (0, .ref (b 11 0))]) dL_hangs_17 (by decide) rfl ?_
  refine v_iconst X (pc := 19) (v := nI 0) dL_hangs_19 (by decide) ?_
  refine v_istore X (pc := 20) (L2 := [(7, .int (nI 0)), (6, .int (nI 0)), (5, .int (nI 0)), (4, .int (nI 0)), (3, .int (nI 0)), (2, .int (nI 0)), (1, .int (nI (G 0 0))), (0, .ref (b 11 0))]) dL_hangs_20 (by decide) rfl ?_
  refine v_iconst X (pc := 22) (v := nI 0) dL_hangs_22 (by decide) ?_
  refine v_istore X (pc := 23) (L2 := [(8, .int (nI 0)), (7, .int (nI 0)), (6, .int (nI 0)), (5, .int (nI 0)), (4, .int (nI 0)), (3, .int (nI 0)), (2, .int (nI 0)), (1, .int (nI (G 0 0))), (0, .ref (b 11 0))]) dL_hangs_23 (by decide) rfl ?_
  refine v_iload_n X (pc := 25) dL_hangs_25 rfl 7 rfl ?_
  refine v_bipush X (pc := 26) (v := nI 12) dL_hangs_26 (by decide) ?_
  refine v_icmpgt X (pc := 28) (tgt := 46) dL_hangs_28 (by decide) (fun cc => absurd cc (nI_nlt hm (by decide))) (fun _ => ?_)
  refine v_aload_n X (pc := 31) dL_hangs_31 rfl 8 rfl ?_
  refine v_iload_n X (pc := 32) dL_hangs_32 rfl 7 rfl ?_
  refine v_iconst X (pc := 33) (v := nI 0) dL_hangs_33 (by decide) ?_
  refine r_stileOf X hR S (by omega) (by decide) (Nat.le_of_ble_eq_true rfl) dL_hangs_34 ?_
  refine v_ldc X (pc := 37) (v := (-100001)) q_527 dL_hangs_37 ?_
  refine v_icmpne X (pc := 39) (tgt := 46) dL_hangs_39 (by decide) (fun cc => False.elim (cc (by unfold soI; rw [if_neg (Nat.lt_irrefl _)]))) (fun _ => ?_)
  refine v_iconst X (pc := 42) (v := nI 1) dL_hangs_42 (by decide) ?_
  refine v_goto X (pc := 43) (tgt := 47) dL_hangs_43 (by decide) ?_
  refine v_istore X (pc := 47) (L2 := [(9, .int (nI 1)), (8, .int (nI 0)), (7, .int (nI 0)), (6, .int (nI 0)), (5, .int (nI 0)), (4, .int (nI 0)), (3, .int (nI 0)), (2, .int (nI 0)), (1, .int (nI (G 0 0))), (0, .ref (b 11 0))]) dL_hangs_47 (by decide) rfl ?_
  refine v_iconst X (pc := 49) (v := nI 1) dL_hangs_49 (by decide) ?_
  refine v_istore X (pc := 50) (L2 := [(10, .int (nI 1)), (9, .int (nI 1)), (8, .int (nI 0)), (7, .int (nI 0)), (6, .int (nI 0)), (5, .int (nI 0)), (4, .int (nI 0)), (3, .int (nI 0)), (2, .int (nI 0)), (1, .int (nI (G 0 0))), (0, .ref (b 11 0))]) dL_hangs_50 (by decide) rfl ?_
  refine v_sub (L2 := [(0, .ref (b 11 0)), (1, .int (nI (G 0 0))), (2, .int (nI (pa G 0))), (3, .int (ow G 0)), (4, .int (fo G 0)), (5, .int (nI 0)), (6, .int (nI 0)), (7, .int (nI 0)), (8, .int (nI 0)), (9, .int (nI 1)), (10, .int (nI (0 + 1)))]) [10, 9, 8, 7, 6, 5, 4, 3, 2, 1, 0] rfl ?_
  exact L1 5 0 δ rfl
theorem cw_L_hangs : CwB yL_hangs cL_hangs 19 (some .boolean) 1 := ⟨q_526, q_13, by decide, by decide, by decide +kernel⟩
