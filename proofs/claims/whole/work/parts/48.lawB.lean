set_option maxHeartbeats 4000000 in
set_option maxRecDepth 100000 in
theorem law_13 {x : Ctx} {bs a0 i Ln : Nat} {xs : Nat → Int32} (X : Cx x RL cL_law 8 10 350) (hX : va_X bs Ln xs x.s x.s.heap) (hbl : bs < x.s.heap.size) (hbA : ¬ x.A bs) (hi : i + 3 < Ln) (h31 : Ln < 2 ^ 31) (b : Nat → Nat → Nat) (a : Nat → Nat) {N : Nat} {G : NB} {z : Nat} {H : Nat → NB} {hs : Int32} {n0 n1 n2 : Blk} {ζ : Row} {η : Nat → Blk} {δ : Row} {χ μ : Blk} (S : St N G z H hs n0 n1 ζ η χ μ) (hN : N + 2600000 ≤ 536870912)
    (kk : ∀ (hs' : Int32) (n0' n1' n2' : Blk) (ζ' : Row) (η' : Nat → Blk) (δ' : Row) (χ' μ' : Blk), Inv (N + 500000) hs' n0' n1' ζ' η' χ' μ' → V x (wHS x.g b hs' n0' n1' n2' ζ' η' δ' χ' ++ wM x.g a μ') (L0 bs (b 11 0) (a 0) i) [] 933) : V x (wHS x.g b hs n0 n1 n2 ζ η δ χ ++ wM x.g a μ) (L0 bs (b 11 0) (a 0) i) [] 531 := by
  obtain ⟨r, n0', ζ', η', χ', μ', f1, f2, I⟩ := sim_run S (by omega) n2 δ 
  refine v_aload_n X (pc := 531) dL_law_531 rfl 1 rfl ?_
  refine v_callV X (pc := 532) (st1 := [.int r]) (w' := wHS x.g b hs n0' n1 n2 ζ' η' δ χ' ++ wM x.g a μ) [] [] (c_X5_run x.l x.g b hs n0 n1 n2 ζ η δ χ  f1) rfl rfl cw_X5_run q_502 q_503 q_504 ⟨by decide, by decide⟩ 0 5 rfl rfl rfl (Fr.left rfl) rfl (Nat.le_of_ble_eq_true rfl) dL_law_532 ?_
  refine v_aload_n X (pc := 535) dL_law_535 rfl 2 rfl ?_
  refine v_callV X (pc := 536) (st1 := [.int r, .int r]) (w' := wHS x.g b hs n0' n1 n2 ζ' η' δ χ' ++ wM x.g a μ') [] [.int r] (c_X6_run x.l x.g a μ  f2) rfl rfl cw_X6_run q_867 q_868 q_869 ⟨by decide, by decide⟩ 103 6 rfl rfl rfl (Fr.right rfl) rfl (Nat.le_of_ble_eq_true rfl) dL_law_536 ?_
  exact v_icmpeq X (pc := 539) (tgt := 933) dL_law_539 (by decide) (fun _ => kk hs n0' n1 n2 ζ' η' δ χ' μ' I) (fun c => absurd rfl c)
set_option maxHeartbeats 4000000 in
set_option maxRecDepth 100000 in
theorem law_14 {x : Ctx} {bs a0 i Ln : Nat} {xs : Nat → Int32} (X : Cx x RL cL_law 8 10 350) (hX : va_X bs Ln xs x.s x.s.heap) (hbl : bs < x.s.heap.size) (hbA : ¬ x.A bs) (hi : i + 3 < Ln) (h31 : Ln < 2 ^ 31) (b : Nat → Nat → Nat) (a : Nat → Nat) {N : Nat} {G : NB} {z : Nat} {H : Nat → NB} {hs : Int32} {n0 n1 n2 : Blk} {ζ : Row} {η : Nat → Blk} {δ : Row} {χ μ : Blk} (S : St N G z H hs n0 n1 ζ η χ μ) (hN : N + 2600000 ≤ 536870912)
    (kk : ∀ (hs' : Int32) (n0' n1' n2' : Blk) (ζ' : Row) (η' : Nat → Blk) (δ' : Row) (χ' μ' : Blk), Inv (N + 500000) hs' n0' n1' ζ' η' χ' μ' → V x (wHS x.g b hs' n0' n1' n2' ζ' η' δ' χ' ++ wM x.g a μ') (L0 bs (b 11 0) (a 0) i) [] 933) : V x (wHS x.g b hs n0 n1 n2 ζ η δ χ ++ wM x.g a μ) (L0 bs (b 11 0) (a 0) i) [] 544 := by
  obtain ⟨r, n0', ζ', μ', f1, f2, I⟩ := sim_undo S (by omega) n1 n2 δ 
  refine v_aload_n X (pc := 544) dL_law_544 rfl 1 rfl ?_
  refine v_callV X (pc := 545) (st1 := [.int r]) (w' := wHS x.g b hs n0' n1 n2 ζ' η δ χ ++ wM x.g a μ) [] [] (c_X5_undo x.l x.g b hs n0 n1 n2 ζ η δ χ  f1) rfl rfl cw_X5_undo q_543 q_544 q_545 ⟨by decide, by decide⟩ 0 5 rfl rfl rfl (Fr.left rfl) rfl (Nat.le_of_ble_eq_true rfl) dL_law_545 ?_
  refine v_aload_n X (pc := 548) dL_law_548 rfl 2 rfl ?_
  refine v_callV X (pc := 549) (st1 := [.int r, .int r]) (w' := wHS x.g b hs n0' n1 n2 ζ' η δ χ ++ wM x.g a μ') [] [.int r] (c_X6_undo x.l x.g a μ  f2) rfl rfl cw_X6_undo q_875 q_876 q_877 ⟨by decide, by decide⟩ 103 6 rfl rfl rfl (Fr.right rfl) rfl (Nat.le_of_ble_eq_true rfl) dL_law_549 ?_
  exact v_icmpeq X (pc := 552) (tgt := 933) dL_law_552 (by decide) (fun _ => kk hs n0' n1 n2 ζ' η δ χ μ' I) (fun c => absurd rfl c)
set_option maxHeartbeats 4000000 in
set_option maxRecDepth 100000 in
theorem law_15 {x : Ctx} {bs a0 i Ln : Nat} {xs : Nat → Int32} (X : Cx x RL cL_law 8 10 350) (hX : va_X bs Ln xs x.s x.s.heap) (hbl : bs < x.s.heap.size) (hbA : ¬ x.A bs) (hi : i + 3 < Ln) (h31 : Ln < 2 ^ 31) (b : Nat → Nat → Nat) (a : Nat → Nat) {N : Nat} {G : NB} {z : Nat} {H : Nat → NB} {hs : Int32} {n0 n1 n2 : Blk} {ζ : Row} {η : Nat → Blk} {δ : Row} {χ μ : Blk} (S : St N G z H hs n0 n1 ζ η χ μ) (hN : N + 2600000 ≤ 536870912)
    (kk : ∀ (hs' : Int32) (n0' n1' n2' : Blk) (ζ' : Row) (η' : Nat → Blk) (δ' : Row) (χ' μ' : Blk), Inv (N + 500000) hs' n0' n1' ζ' η' χ' μ' → V x (wHS x.g b hs' n0' n1' n2' ζ' η' δ' χ' ++ wM x.g a μ') (L0 bs (b 11 0) (a 0) i) [] 933) : V x (wHS x.g b hs n0 n1 n2 ζ η δ χ ++ wM x.g a μ) (L0 bs (b 11 0) (a 0) i) [] 557 := by
  obtain ⟨r, hs', n1', μ', f1, f2, I⟩ := sim_save S (by omega) n2 δ 
  refine v_aload_n X (pc := 557) dL_law_557 rfl 1 rfl ?_
  refine v_callV X (pc := 558) (st1 := [.int r]) (w' := wHS x.g b hs' n0 n1' n2 ζ η δ χ ++ wM x.g a μ) [] [] (c_X5_save x.l x.g b hs n0 n1 n2 ζ η δ χ  f1) rfl rfl cw_X5_save q_551 q_552 q_553 ⟨by decide, by decide⟩ 0 5 rfl rfl rfl (Fr.left rfl) rfl (Nat.le_of_ble_eq_true rfl) dL_law_558 ?_
  refine v_aload_n X (pc := 561) dL_law_561 rfl 2 rfl ?_
  refine v_callV X (pc := 562) (st1 := [.int r, .int r]) (w' := wHS x.g b hs' n0 n1' n2 ζ η δ χ ++ wM x.g a μ') [] [.int r] (c_X6_save x.l x.g a μ  f2) rfl rfl cw_X6_save q_879 q_880 q_881 ⟨by decide, by decide⟩ 103 6 rfl rfl rfl (Fr.right rfl) rfl (Nat.le_of_ble_eq_true rfl) dL_law_562 ?_
  exact v_icmpeq X (pc := 565) (tgt := 933) dL_law_565 (by decide) (fun _ => kk hs' n0 n1' n2 ζ η δ χ μ' I) (fun c => absurd rfl c)
set_option maxHeartbeats 4000000 in
set_option maxRecDepth 100000 in
theorem law_16 {x : Ctx} {bs a0 i Ln : Nat} {xs : Nat → Int32} (X : Cx x RL cL_law 8 10 350) (hX : va_X bs Ln xs x.s x.s.heap) (hbl : bs < x.s.heap.size) (hbA : ¬ x.A bs) (hi : i + 3 < Ln) (h31 : Ln < 2 ^ 31) (b : Nat → Nat → Nat) (a : Nat → Nat) {N : Nat} {G : NB} {z : Nat} {H : Nat → NB} {hs : Int32} {n0 n1 n2 : Blk} {ζ : Row} {η : Nat → Blk} {δ : Row} {χ μ : Blk} (S : St N G z H hs n0 n1 ζ η χ μ) (hN : N + 2600000 ≤ 536870912)
    (kk : ∀ (hs' : Int32) (n0' n1' n2' : Blk) (ζ' : Row) (η' : Nat → Blk) (δ' : Row) (χ' μ' : Blk), Inv (N + 500000) hs' n0' n1' ζ' η' χ' μ' → V x (wHS x.g b hs' n0' n1' n2' ζ' η' δ' χ' ++ wM x.g a μ') (L0 bs (b 11 0) (a 0) i) [] 933) : V x (wHS x.g b hs n0 n1 n2 ζ η δ χ ++ wM x.g a μ) (L0 bs (b 11 0) (a 0) i) [] 570 := by
  obtain ⟨r, n0', ζ', η', μ', f1, f2, I⟩ := sim_restore S (by omega) n2 δ 
  refine v_aload_n X (pc := 570) dL_law_570 rfl 1 rfl ?_
  refine v_callV X (pc := 571) (st1 := [.int r]) (w' := wHS x.g b hs n0' n1 n2 ζ' η' δ χ ++ wM x.g a μ) [] [] (c_X5_restore x.l x.g b hs n0 n1 n2 ζ η δ χ  f1) rfl rfl cw_X5_restore q_556 q_557 q_558 ⟨by decide, by decide⟩ 0 5 rfl rfl rfl (Fr.left rfl) rfl (Nat.le_of_ble_eq_true rfl) dL_law_571 ?_
  refine v_aload_n X (pc := 574) dL_law_574 rfl 2 rfl ?_
  refine v_callV X (pc := 575) (st1 := [.int r, .int r]) (w' := wHS x.g b hs n0' n1 n2 ζ' η' δ χ ++ wM x.g a μ') [] [.int r] (c_X6_restore x.l x.g a μ  f2) rfl rfl cw_X6_restore q_883 q_884 q_885 ⟨by decide, by decide⟩ 103 6 rfl rfl rfl (Fr.right rfl) rfl (Nat.le_of_ble_eq_true rfl) dL_law_575 ?_
  exact v_icmpeq X (pc := 578) (tgt := 933) dL_law_578 (by decide) (fun _ => kk hs n0' n1 n2 ζ' η' δ χ μ' I) (fun c => absurd rfl c)
set_option maxHeartbeats 4000000 in
set_option maxRecDepth 100000 in
theorem law_17 {x : Ctx} {bs a0 i Ln : Nat} {xs : Nat → Int32} (X : Cx x RL cL_law 8 10 350) (hX : va_X bs Ln xs x.s x.s.heap) (hbl : bs < x.s.heap.size) (hbA : ¬ x.A bs) (hi : i + 3 < Ln) (h31 : Ln < 2 ^ 31) (b : Nat → Nat → Nat) (a : Nat → Nat) {N : Nat} {G : NB} {z : Nat} {H : Nat → NB} {hs : Int32} {n0 n1 n2 : Blk} {ζ : Row} {η : Nat → Blk} {δ : Row} {χ μ : Blk} (S : St N G z H hs n0 n1 ζ η χ μ) (hN : N + 2600000 ≤ 536870912)
    (kk : ∀ (hs' : Int32) (n0' n1' n2' : Blk) (ζ' : Row) (η' : Nat → Blk) (δ' : Row) (χ' μ' : Blk), Inv (N + 500000) hs' n0' n1' ζ' η' χ' μ' → V x (wHS x.g b hs' n0' n1' n2' ζ' η' δ' χ' ++ wM x.g a μ') (L0 bs (b 11 0) (a 0) i) [] 933) : V x (wHS x.g b hs n0 n1 n2 ζ η δ χ ++ wM x.g a μ) (L0 bs (b 11 0) (a 0) i) [] 583 := by
  obtain ⟨r, δ', μ', f1, f2, I⟩ := sim_hall S (by omega) n2 δ (xs (i + 1)) (xs (i + 2))
  refine v_aload_n X (pc := 583) dL_law_583 rfl 1 rfl ?_
  refine v_arg X (pc := 584) (k := 1) hX hbl hbA (by omega) h31 (by decide) dL_law_584 dL_law_585 dL_law_586 dL_law_587 dL_law_588 ?_
  refine v_arg X (pc := 589) (k := 2) hX hbl hbA (by omega) h31 (by decide) dL_law_589 dL_law_590 dL_law_591 dL_law_592 dL_law_593 ?_
  refine v_callV X (pc := 594) (st1 := [.int r]) (w' := wHS x.g b hs n0 n1 n2 ζ η δ' χ ++ wM x.g a μ) [.int (xs (i + 1)), .int (xs (i + 2))] [] (c_X5_hall x.l x.g b hs n0 n1 n2 ζ η δ χ (xs (i + 1)) (xs (i + 2)) f1) rfl rfl cw_X5_hall q_560 q_561 q_562 ⟨by decide, by decide⟩ 0 5 rfl rfl rfl (Fr.left rfl) rfl (Nat.le_of_ble_eq_true rfl) dL_law_594 ?_
  refine v_aload_n X (pc := 597) dL_law_597 rfl 2 rfl ?_
  refine v_arg X (pc := 598) (k := 1) hX hbl hbA (by omega) h31 (by decide) dL_law_598 dL_law_599 dL_law_600 dL_law_601 dL_law_602 ?_
  refine v_arg X (pc := 603) (k := 2) hX hbl hbA (by omega) h31 (by decide) dL_law_603 dL_law_604 dL_law_605 dL_law_606 dL_law_607 ?_
  refine v_callV X (pc := 608) (st1 := [.int r, .int r]) (w' := wHS x.g b hs n0 n1 n2 ζ η δ' χ ++ wM x.g a μ') [.int (xs (i + 1)), .int (xs (i + 2))] [.int r] (c_X6_hall x.l x.g a μ (xs (i + 1)) (xs (i + 2)) f2) rfl rfl cw_X6_hall q_887 q_888 q_889 ⟨by decide, by decide⟩ 103 6 rfl rfl rfl (Fr.right rfl) rfl (Nat.le_of_ble_eq_true rfl) dL_law_608 ?_
  exact v_icmpeq X (pc := 611) (tgt := 933) dL_law_611 (by decide) (fun _ => kk hs n0 n1 n2 ζ η δ' χ μ' I) (fun c => absurd rfl c)
set_option maxHeartbeats 4000000 in
set_option maxRecDepth 100000 in
theorem law_18 {x : Ctx} {bs a0 i Ln : Nat} {xs : Nat → Int32} (X : Cx x RL cL_law 8 10 350) (hX : va_X bs Ln xs x.s x.s.heap) (hbl : bs < x.s.heap.size) (hbA : ¬ x.A bs) (hi : i + 3 < Ln) (h31 : Ln < 2 ^ 31) (b : Nat → Nat → Nat) (a : Nat → Nat) {N : Nat} {G : NB} {z : Nat} {H : Nat → NB} {hs : Int32} {n0 n1 n2 : Blk} {ζ : Row} {η : Nat → Blk} {δ : Row} {χ μ : Blk} (S : St N G z H hs n0 n1 ζ η χ μ) (hN : N + 2600000 ≤ 536870912)
    (kk : ∀ (hs' : Int32) (n0' n1' n2' : Blk) (ζ' : Row) (η' : Nat → Blk) (δ' : Row) (χ' μ' : Blk), Inv (N + 500000) hs' n0' n1' ζ' η' χ' μ' → V x (wHS x.g b hs' n0' n1' n2' ζ' η' δ' χ' ++ wM x.g a μ') (L0 bs (b 11 0) (a 0) i) [] 933) : V x (wHS x.g b hs n0 n1 n2 ζ η δ χ ++ wM x.g a μ) (L0 bs (b 11 0) (a 0) i) [] 616 := by
  obtain ⟨r, f1, f2⟩ := sim_stileOf S n2 δ (xs (i + 1)) (xs (i + 2))
  have I : Inv (N + 500000) hs n0 n1 ζ η χ μ := ⟨_, _, _, S.mono (by omega) (by omega)⟩
  refine v_aload_n X (pc := 616) dL_law_616 rfl 1 rfl ?_
  refine v_arg X (pc := 617) (k := 1) hX hbl hbA (by omega) h31 (by decide) dL_law_617 dL_law_618 dL_law_619 dL_law_620 dL_law_621 ?_
  refine v_arg X (pc := 622) (k := 2) hX hbl hbA (by omega) h31 (by decide) dL_law_622 dL_law_623 dL_law_624 dL_law_625 dL_law_626 ?_
  refine v_callV X (pc := 627) (st1 := [.int r]) (w' := wHS x.g b hs n0 n1 n2 ζ η δ χ ++ wM x.g a μ) [.int (xs (i + 1)), .int (xs (i + 2))] [] (c_X5_stileOf x.l x.g b hs n0 n1 n2 ζ η δ χ (xs (i + 1)) (xs (i + 2)) f1) rfl rfl cw_X5_stileOf q_590 q_591 q_592 ⟨by decide, by decide⟩ 0 5 rfl rfl rfl (Fr.left rfl) rfl (Nat.le_of_ble_eq_true rfl) dL_law_627 ?_
  refine v_aload_n X (pc := 630) dL_law_630 rfl 2 rfl ?_
  refine v_arg X (pc := 631) (k := 1) hX hbl hbA (by omega) h31 (by decide) dL_law_631 dL_law_632 dL_law_633 dL_law_634 dL_law_635 ?_
  refine v_arg X (pc := 636) (k := 2) hX hbl hbA (by omega) h31 (by decide) dL_law_636 dL_law_637 dL_law_638 dL_law_639 dL_law_640 ?_
  refine v_callV X (pc := 641) (st1 := [.int r, .int r]) (w' := wHS x.g b hs n0 n1 n2 ζ η δ χ ++ wM x.g a μ) [.int (xs (i + 1)), .int (xs (i + 2))] [.int r] (c_X6_stileOf x.l x.g a μ (xs (i + 1)) (xs (i + 2)) f2) rfl rfl cw_X6_stileOf q_903 q_904 q_905 ⟨by decide, by decide⟩ 103 6 rfl rfl rfl (Fr.right rfl) rfl (Nat.le_of_ble_eq_true rfl) dL_law_641 ?_
  exact v_icmpeq X (pc := 644) (tgt := 933) dL_law_644 (by decide) (fun _ => kk hs n0 n1 n2 ζ η δ χ μ I) (fun c => absurd rfl c)
set_option maxHeartbeats 4000000 in
set_option maxRecDepth 100000 in
theorem law_19 {x : Ctx} {bs a0 i Ln : Nat} {xs : Nat → Int32} (X : Cx x RL cL_law 8 10 350) (hX : va_X bs Ln xs x.s x.s.heap) (hbl : bs < x.s.heap.size) (hbA : ¬ x.A bs) (hi : i + 3 < Ln) (h31 : Ln < 2 ^ 31) (b : Nat → Nat → Nat) (a : Nat → Nat) {N : Nat} {G : NB} {z : Nat} {H : Nat → NB} {hs : Int32} {n0 n1 n2 : Blk} {ζ : Row} {η : Nat → Blk} {δ : Row} {χ μ : Blk} (S : St N G z H hs n0 n1 ζ η χ μ) (hN : N + 2600000 ≤ 536870912)
    (kk : ∀ (hs' : Int32) (n0' n1' n2' : Blk) (ζ' : Row) (η' : Nat → Blk) (δ' : Row) (χ' μ' : Blk), Inv (N + 500000) hs' n0' n1' ζ' η' χ' μ' → V x (wHS x.g b hs' n0' n1' n2' ζ' η' δ' χ' ++ wM x.g a μ') (L0 bs (b 11 0) (a 0) i) [] 933) : V x (wHS x.g b hs n0 n1 n2 ζ η δ χ ++ wM x.g a μ) (L0 bs (b 11 0) (a 0) i) [] 649 := by
  obtain ⟨r, f1, f2⟩ := sim_counter S n2 δ (xs (i + 1)) (xs (i + 2)) (xs (i + 3))
  have I : Inv (N + 500000) hs n0 n1 ζ η χ μ := ⟨_, _, _, S.mono (by omega) (by omega)⟩
  refine v_aload_n X (pc := 649) dL_law_649 rfl 1 rfl ?_
  refine v_arg X (pc := 650) (k := 1) hX hbl hbA (by omega) h31 (by decide) dL_law_650 dL_law_651 dL_law_652 dL_law_653 dL_law_654 ?_
  refine v_arg X (pc := 655) (k := 2) hX hbl hbA (by omega) h31 (by decide) dL_law_655 dL_law_656 dL_law_657 dL_law_658 dL_law_659 ?_
  refine v_arg X (pc := 660) (k := 3) hX hbl hbA (by omega) h31 (by decide) dL_law_660 dL_law_661 dL_law_662 dL_law_663 dL_law_664 ?_
  refine v_callV X (pc := 665) (st1 := [.int r]) (w' := wHS x.g b hs n0 n1 n2 ζ η δ χ ++ wM x.g a μ) [.int (xs (i + 1)), .int (xs (i + 2)), .int (xs (i + 3))] [] (c_X5_counter x.l x.g b hs n0 n1 n2 ζ η δ χ (xs (i + 1)) (xs (i + 2)) (xs (i + 3)) f1) rfl rfl cw_X5_counter q_594 q_595 q_596 ⟨by decide, by decide⟩ 0 5 rfl rfl rfl (Fr.left rfl) rfl (Nat.le_of_ble_eq_true rfl) dL_law_665 ?_
  refine v_aload_n X (pc := 668) dL_law_668 rfl 2 rfl ?_
  refine v_arg X (pc := 669) (k := 1) hX hbl hbA (by omega) h31 (by decide) dL_law_669 dL_law_670 dL_law_671 dL_law_672 dL_law_673 ?_
  refine v_arg X (pc := 674) (k := 2) hX hbl hbA (by omega) h31 (by decide) dL_law_674 dL_law_675 dL_law_676 dL_law_677 dL_law_678 ?_
  refine v_arg X (pc := 679) (k := 3) hX hbl hbA (by omega) h31 (by decide) dL_law_679 dL_law_680 dL_law_681 dL_law_682 dL_law_683 ?_
  refine v_callV X (pc := 684) (st1 := [.int r, .int r]) (w' := wHS x.g b hs n0 n1 n2 ζ η δ χ ++ wM x.g a μ) [.int (xs (i + 1)), .int (xs (i + 2)), .int (xs (i + 3))] [.int r] (c_X6_counter x.l x.g a μ (xs (i + 1)) (xs (i + 2)) (xs (i + 3)) f2) rfl rfl cw_X6_counter q_907 q_908 q_909 ⟨by decide, by decide⟩ 103 6 rfl rfl rfl (Fr.right rfl) rfl (Nat.le_of_ble_eq_true rfl) dL_law_684 ?_
  exact v_icmpeq X (pc := 687) (tgt := 933) dL_law_687 (by decide) (fun _ => kk hs n0 n1 n2 ζ η δ χ μ I) (fun c => absurd rfl c)
set_option maxHeartbeats 4000000 in
set_option maxRecDepth 100000 in
theorem law_20 {x : Ctx} {bs a0 i Ln : Nat} {xs : Nat → Int32} (X : Cx x RL cL_law 8 10 350) (hX : va_X bs Ln xs x.s x.s.heap) (hbl : bs < x.s.heap.size) (hbA : ¬ x.A bs) (hi : i + 3 < Ln) (h31 : Ln < 2 ^ 31) (b : Nat → Nat → Nat) (a : Nat → Nat) {N : Nat} {G : NB} {z : Nat} {H : Nat → NB} {hs : Int32} {n0 n1 n2 : Blk} {ζ : Row} {η : Nat → Blk} {δ : Row} {χ μ : Blk} (S : St N G z H hs n0 n1 ζ η χ μ) (hN : N + 2600000 ≤ 536870912)
    (kk : ∀ (hs' : Int32) (n0' n1' n2' : Blk) (ζ' : Row) (η' : Nat → Blk) (δ' : Row) (χ' μ' : Blk), Inv (N + 500000) hs' n0' n1' ζ' η' χ' μ' → V x (wHS x.g b hs' n0' n1' n2' ζ' η' δ' χ' ++ wM x.g a μ') (L0 bs (b 11 0) (a 0) i) [] 933) : V x (wHS x.g b hs n0 n1 n2 ζ η δ χ ++ wM x.g a μ) (L0 bs (b 11 0) (a 0) i) [] 692 := by
  obtain ⟨r, f1, f2⟩ := sim_reason S n2 δ (xs (i + 1)) (decide (¬ xs (i + 2) = 0)) (xs (i + 3))
  have I : Inv (N + 500000) hs n0 n1 ζ η χ μ := ⟨_, _, _, S.mono (by omega) (by omega)⟩
  refine v_aload_n X (pc := 692) dL_law_692 rfl 1 rfl ?_
  refine v_arg X (pc := 693) (k := 1) hX hbl hbA (by omega) h31 (by decide) dL_law_693 dL_law_694 dL_law_695 dL_law_696 dL_law_697 ?_
  refine v_argB X (pc := 698) (k := 2) hX hbl hbA (by omega) h31 (by decide) dL_law_698 dL_law_699 dL_law_700 dL_law_701 dL_law_702 dL_law_703 dL_law_706 dL_law_707 dL_law_710 ?_
  refine v_arg X (pc := 711) (k := 3) hX hbl hbA (by omega) h31 (by decide) dL_law_711 dL_law_712 dL_law_713 dL_law_714 dL_law_715 ?_
  refine v_callV X (pc := 716) (st1 := [.int r]) (w' := wHS x.g b hs n0 n1 n2 ζ η δ χ ++ wM x.g a μ) [.int (xs (i + 1)), .int (b2i (decide (¬ xs (i + 2) = 0))), .int (xs (i + 3))] [] (c_X5_reason x.l x.g b hs n0 n1 n2 ζ η δ χ (xs (i + 1)) (decide (¬ xs (i + 2) = 0)) (xs (i + 3)) f1) rfl rfl cw_X5_reason q_598 q_599 q_600 ⟨by decide, by decide⟩ 0 5 rfl rfl rfl (Fr.left rfl) rfl (Nat.le_of_ble_eq_true rfl) dL_law_716 ?_
  refine v_aload_n X (pc := 719) dL_law_719 rfl 2 rfl ?_
  refine v_arg X (pc := 720) (k := 1) hX hbl hbA (by omega) h31 (by decide) dL_law_720 dL_law_721 dL_law_722 dL_law_723 dL_law_724 ?_
  refine v_argB X (pc := 725) (k := 2) hX hbl hbA (by omega) h31 (by decide) dL_law_725 dL_law_726 dL_law_727 dL_law_728 dL_law_729 dL_law_730 dL_law_733 dL_law_734 dL_law_737 ?_
  refine v_arg X (pc := 738) (k := 3) hX hbl hbA (by omega) h31 (by decide) dL_law_738 dL_law_739 dL_law_740 dL_law_741 dL_law_742 ?_
  refine v_callV X (pc := 743) (st1 := [.int r, .int r]) (w' := wHS x.g b hs n0 n1 n2 ζ η δ χ ++ wM x.g a μ) [.int (xs (i + 1)), .int (b2i (decide (¬ xs (i + 2) = 0))), .int (xs (i + 3))] [.int r] (c_X6_reason x.l x.g a μ (xs (i + 1)) (decide (¬ xs (i + 2) = 0)) (xs (i + 3)) f2) rfl rfl cw_X6_reason q_911 q_912 q_913 ⟨by decide, by decide⟩ 103 6 rfl rfl rfl (Fr.right rfl) rfl (Nat.le_of_ble_eq_true rfl) dL_law_743 ?_
  exact v_icmpeq X (pc := 746) (tgt := 933) dL_law_746 (by decide) (fun _ => kk hs n0 n1 n2 ζ η δ χ μ I) (fun c => absurd rfl c)
set_option maxHeartbeats 4000000 in
set_option maxRecDepth 100000 in
theorem law_21 {x : Ctx} {bs a0 i Ln : Nat} {xs : Nat → Int32} (X : Cx x RL cL_law 8 10 350) (hX : va_X bs Ln xs x.s x.s.heap) (hbl : bs < x.s.heap.size) (hbA : ¬ x.A bs) (hi : i + 3 < Ln) (h31 : Ln < 2 ^ 31) (b : Nat → Nat → Nat) (a : Nat → Nat) {N : Nat} {G : NB} {z : Nat} {H : Nat → NB} {hs : Int32} {n0 n1 n2 : Blk} {ζ : Row} {η : Nat → Blk} {δ : Row} {χ μ : Blk} (S : St N G z H hs n0 n1 ζ η χ μ) (hN : N + 2600000 ≤ 536870912)
    (kk : ∀ (hs' : Int32) (n0' n1' n2' : Blk) (ζ' : Row) (η' : Nat → Blk) (δ' : Row) (χ' μ' : Blk), Inv (N + 500000) hs' n0' n1' ζ' η' χ' μ' → V x (wHS x.g b hs' n0' n1' n2' ζ' η' δ' χ' ++ wM x.g a μ') (L0 bs (b 11 0) (a 0) i) [] 933) : V x (wHS x.g b hs n0 n1 n2 ζ η δ χ ++ wM x.g a μ) (L0 bs (b 11 0) (a 0) i) [] 751 := by
  obtain ⟨r, f1, f2⟩ := sim_worst S n2 δ (xs (i + 1))
  have I : Inv (N + 500000) hs n0 n1 ζ η χ μ := ⟨_, _, _, S.mono (by omega) (by omega)⟩
  refine v_aload_n X (pc := 751) dL_law_751 rfl 1 rfl ?_
  refine v_arg X (pc := 752) (k := 1) hX hbl hbA (by omega) h31 (by decide) dL_law_752 dL_law_753 dL_law_754 dL_law_755 dL_law_756 ?_
  refine v_callV X (pc := 757) (st1 := [.int r]) (w' := wHS x.g b hs n0 n1 n2 ζ η δ χ ++ wM x.g a μ) [.int (xs (i + 1))] [] (c_X5_worst x.l x.g b hs n0 n1 n2 ζ η δ χ (xs (i + 1)) f1) rfl rfl cw_X5_worst q_602 q_603 q_604 ⟨by decide, by decide⟩ 0 5 rfl rfl rfl (Fr.left rfl) rfl (Nat.le_of_ble_eq_true rfl) dL_law_757 ?_
  refine v_aload_n X (pc := 760) dL_law_760 rfl 2 rfl ?_
  refine v_arg X (pc := 761) (k := 1) hX hbl hbA (by omega) h31 (by decide) dL_law_761 dL_law_762 dL_law_763 dL_law_764 dL_law_765 ?_
  refine v_callV X (pc := 766) (st1 := [.int r, .int r]) (w' := wHS x.g b hs n0 n1 n2 ζ η δ χ ++ wM x.g a μ) [.int (xs (i + 1))] [.int r] (c_X6_worst x.l x.g a μ (xs (i + 1)) f2) rfl rfl cw_X6_worst q_915 q_916 q_917 ⟨by decide, by decide⟩ 103 6 rfl rfl rfl (Fr.right rfl) rfl (Nat.le_of_ble_eq_true rfl) dL_law_766 ?_
  exact v_icmpeq X (pc := 769) (tgt := 933) dL_law_769 (by decide) (fun _ => kk hs n0 n1 n2 ζ η δ χ μ I) (fun c => absurd rfl c)
set_option maxHeartbeats 4000000 in
set_option maxRecDepth 100000 in
theorem law_22 {x : Ctx} {bs a0 i Ln : Nat} {xs : Nat → Int32} (X : Cx x RL cL_law 8 10 350) (hX : va_X bs Ln xs x.s x.s.heap) (hbl : bs < x.s.heap.size) (hbA : ¬ x.A bs) (hi : i + 3 < Ln) (h31 : Ln < 2 ^ 31) (b : Nat → Nat → Nat) (a : Nat → Nat) {N : Nat} {G : NB} {z : Nat} {H : Nat → NB} {hs : Int32} {n0 n1 n2 : Blk} {ζ : Row} {η : Nat → Blk} {δ : Row} {χ μ : Blk} (S : St N G z H hs n0 n1 ζ η χ μ) (hN : N + 2600000 ≤ 536870912)
    (kk : ∀ (hs' : Int32) (n0' n1' n2' : Blk) (ζ' : Row) (η' : Nat → Blk) (δ' : Row) (χ' μ' : Blk), Inv (N + 500000) hs' n0' n1' ζ' η' χ' μ' → V x (wHS x.g b hs' n0' n1' n2' ζ' η' δ' χ' ++ wM x.g a μ') (L0 bs (b 11 0) (a 0) i) [] 933) : V x (wHS x.g b hs n0 n1 n2 ζ η δ χ ++ wM x.g a μ) (L0 bs (b 11 0) (a 0) i) [] 774 := by
  obtain ⟨r, f1, f2⟩ := sim_count S n2 δ (xs (i + 1))
  have I : Inv (N + 500000) hs n0 n1 ζ η χ μ := ⟨_, _, _, S.mono (by omega) (by omega)⟩
  refine v_aload_n X (pc := 774) dL_law_774 rfl 1 rfl ?_
  refine v_arg X (pc := 775) (k := 1) hX hbl hbA (by omega) h31 (by decide) dL_law_775 dL_law_776 dL_law_777 dL_law_778 dL_law_779 ?_
  refine v_callV X (pc := 780) (st1 := [.int r]) (w' := wHS x.g b hs n0 n1 n2 ζ η δ χ ++ wM x.g a μ) [.int (xs (i + 1))] [] (c_X5_count x.l x.g b hs n0 n1 n2 ζ η δ χ (xs (i + 1)) f1) rfl rfl cw_X5_count q_611 q_612 q_613 ⟨by decide, by decide⟩ 0 5 rfl rfl rfl (Fr.left rfl) rfl (Nat.le_of_ble_eq_true rfl) dL_law_780 ?_
  refine v_aload_n X (pc := 783) dL_law_783 rfl 2 rfl ?_
  refine v_arg X (pc := 784) (k := 1) hX hbl hbA (by omega) h31 (by decide) dL_law_784 dL_law_785 dL_law_786 dL_law_787 dL_law_788 ?_
  refine v_callV X (pc := 789) (st1 := [.int r, .int r]) (w' := wHS x.g b hs n0 n1 n2 ζ η δ χ ++ wM x.g a μ) [.int (xs (i + 1))] [.int r] (c_X6_count x.l x.g a μ (xs (i + 1)) f2) rfl rfl cw_X6_count q_919 q_920 q_921 ⟨by decide, by decide⟩ 103 6 rfl rfl rfl (Fr.right rfl) rfl (Nat.le_of_ble_eq_true rfl) dL_law_789 ?_
  exact v_icmpeq X (pc := 792) (tgt := 933) dL_law_792 (by decide) (fun _ => kk hs n0 n1 n2 ζ η δ χ μ I) (fun c => absurd rfl c)
set_option maxHeartbeats 4000000 in
set_option maxRecDepth 100000 in
theorem law_23 {x : Ctx} {bs a0 i Ln : Nat} {xs : Nat → Int32} (X : Cx x RL cL_law 8 10 350) (hX : va_X bs Ln xs x.s x.s.heap) (hbl : bs < x.s.heap.size) (hbA : ¬ x.A bs) (hi : i + 3 < Ln) (h31 : Ln < 2 ^ 31) (b : Nat → Nat → Nat) (a : Nat → Nat) {N : Nat} {G : NB} {z : Nat} {H : Nat → NB} {hs : Int32} {n0 n1 n2 : Blk} {ζ : Row} {η : Nat → Blk} {δ : Row} {χ μ : Blk} (S : St N G z H hs n0 n1 ζ η χ μ) (hN : N + 2600000 ≤ 536870912)
    (kk : ∀ (hs' : Int32) (n0' n1' n2' : Blk) (ζ' : Row) (η' : Nat → Blk) (δ' : Row) (χ' μ' : Blk), Inv (N + 500000) hs' n0' n1' ζ' η' χ' μ' → V x (wHS x.g b hs' n0' n1' n2' ζ' η' δ' χ' ++ wM x.g a μ') (L0 bs (b 11 0) (a 0) i) [] 933) : V x (wHS x.g b hs n0 n1 n2 ζ η δ χ ++ wM x.g a μ) (L0 bs (b 11 0) (a 0) i) [] 797 := by
  obtain ⟨r, f1, f2⟩ := sim_most S n2 δ (xs (i + 1)) (decide (¬ xs (i + 2) = 0))
  have I : Inv (N + 500000) hs n0 n1 ζ η χ μ := ⟨_, _, _, S.mono (by omega) (by omega)⟩
  refine v_aload_n X (pc := 797) dL_law_797 rfl 1 rfl ?_
  refine v_arg X (pc := 798) (k := 1) hX hbl hbA (by omega) h31 (by decide) dL_law_798 dL_law_799 dL_law_800 dL_law_801 dL_law_802 ?_
  refine v_argB X (pc := 803) (k := 2) hX hbl hbA (by omega) h31 (by decide) dL_law_803 dL_law_804 dL_law_805 dL_law_806 dL_law_807 dL_law_808 dL_law_811 dL_law_812 dL_law_815 ?_
  refine v_callV X (pc := 816) (st1 := [.int r]) (w' := wHS x.g b hs n0 n1 n2 ζ η δ χ ++ wM x.g a μ) [.int (xs (i + 1)), .int (b2i (decide (¬ xs (i + 2) = 0)))] [] (c_X5_most x.l x.g b hs n0 n1 n2 ζ η δ χ (xs (i + 1)) (decide (¬ xs (i + 2) = 0)) f1) rfl rfl cw_X5_most q_641 q_642 q_643 ⟨by decide, by decide⟩ 0 5 rfl rfl rfl (Fr.left rfl) rfl (Nat.le_of_ble_eq_true rfl) dL_law_816 ?_
  refine v_aload_n X (pc := 819) dL_law_819 rfl 2 rfl ?_
  refine v_arg X (pc := 820) (k := 1) hX hbl hbA (by omega) h31 (by decide) dL_law_820 dL_law_821 dL_law_822 dL_law_823 dL_law_824 ?_
  refine v_argB X (pc := 825) (k := 2) hX hbl hbA (by omega) h31 (by decide) dL_law_825 dL_law_826 dL_law_827 dL_law_828 dL_law_829 dL_law_830 dL_law_833 dL_law_834 dL_law_837 ?_
  refine v_callV X (pc := 838) (st1 := [.int r, .int r]) (w' := wHS x.g b hs n0 n1 n2 ζ η δ χ ++ wM x.g a μ) [.int (xs (i + 1)), .int (b2i (decide (¬ xs (i + 2) = 0)))] [.int r] (c_X6_most x.l x.g a μ (xs (i + 1)) (decide (¬ xs (i + 2) = 0)) f2) rfl rfl cw_X6_most q_935 q_936 q_937 ⟨by decide, by decide⟩ 103 6 rfl rfl rfl (Fr.right rfl) rfl (Nat.le_of_ble_eq_true rfl) dL_law_838 ?_
  exact v_icmpeq X (pc := 841) (tgt := 933) dL_law_841 (by decide) (fun _ => kk hs n0 n1 n2 ζ η δ χ μ I) (fun c => absurd rfl c)
set_option maxHeartbeats 4000000 in
set_option maxRecDepth 100000 in
theorem law_24 {x : Ctx} {bs a0 i Ln : Nat} {xs : Nat → Int32} (X : Cx x RL cL_law 8 10 350) (hX : va_X bs Ln xs x.s x.s.heap) (hbl : bs < x.s.heap.size) (hbA : ¬ x.A bs) (hi : i + 3 < Ln) (h31 : Ln < 2 ^ 31) (b : Nat → Nat → Nat) (a : Nat → Nat) {N : Nat} {G : NB} {z : Nat} {H : Nat → NB} {hs : Int32} {n0 n1 n2 : Blk} {ζ : Row} {η : Nat → Blk} {δ : Row} {χ μ : Blk} (S : St N G z H hs n0 n1 ζ η χ μ) (hN : N + 2600000 ≤ 536870912)
    (kk : ∀ (hs' : Int32) (n0' n1' n2' : Blk) (ζ' : Row) (η' : Nat → Blk) (δ' : Row) (χ' μ' : Blk), Inv (N + 500000) hs' n0' n1' ζ' η' χ' μ' → V x (wHS x.g b hs' n0' n1' n2' ζ' η' δ' χ' ++ wM x.g a μ') (L0 bs (b 11 0) (a 0) i) [] 933) : V x (wHS x.g b hs n0 n1 n2 ζ η δ χ ++ wM x.g a μ) (L0 bs (b 11 0) (a 0) i) [] 846 := by
  obtain ⟨r, n2', δ', μ', f1, f2, I⟩ := sim_emptyIn S (by omega) n2 δ 
  refine v_aload_n X (pc := 846) dL_law_846 rfl 1 rfl ?_
  refine v_callV X (pc := 847) (st1 := [.int r]) (w' := wHS x.g b hs n0 n1 n2' ζ η δ' χ ++ wM x.g a μ) [] [] (c_X5_emptyIn x.l x.g b hs n0 n1 n2 ζ η δ χ  f1) rfl rfl cw_X5_emptyIn q_646 q_647 q_648 ⟨by decide, by decide⟩ 0 5 rfl rfl rfl (Fr.left rfl) rfl (Nat.le_of_ble_eq_true rfl) dL_law_847 ?_
  refine v_aload_n X (pc := 850) dL_law_850 rfl 2 rfl ?_
  refine v_callV X (pc := 851) (st1 := [.int r, .int r]) (w' := wHS x.g b hs n0 n1 n2' ζ η δ' χ ++ wM x.g a μ') [] [.int r] (c_X6_emptyIn x.l x.g a μ  f2) rfl rfl cw_X6_emptyIn q_939 q_940 q_941 ⟨by decide, by decide⟩ 103 6 rfl rfl rfl (Fr.right rfl) rfl (Nat.le_of_ble_eq_true rfl) dL_law_851 ?_
  exact v_icmpeq X (pc := 854) (tgt := 933) dL_law_854 (by decide) (fun _ => kk hs n0 n1 n2' ζ η δ' χ μ' I) (fun c => absurd rfl c)
set_option maxHeartbeats 4000000 in
set_option maxRecDepth 100000 in
theorem law_25 {x : Ctx} {bs a0 i Ln : Nat} {xs : Nat → Int32} (X : Cx x RL cL_law 8 10 350) (hX : va_X bs Ln xs x.s x.s.heap) (hbl : bs < x.s.heap.size) (hbA : ¬ x.A bs) (hi : i + 3 < Ln) (h31 : Ln < 2 ^ 31) (b : Nat → Nat → Nat) (a : Nat → Nat) {N : Nat} {G : NB} {z : Nat} {H : Nat → NB} {hs : Int32} {n0 n1 n2 : Blk} {ζ : Row} {η : Nat → Blk} {δ : Row} {χ μ : Blk} (S : St N G z H hs n0 n1 ζ η χ μ) (hN : N + 2600000 ≤ 536870912)
    (kk : ∀ (hs' : Int32) (n0' n1' n2' : Blk) (ζ' : Row) (η' : Nat → Blk) (δ' : Row) (χ' μ' : Blk), Inv (N + 500000) hs' n0' n1' ζ' η' χ' μ' → V x (wHS x.g b hs' n0' n1' n2' ζ' η' δ' χ' ++ wM x.g a μ') (L0 bs (b 11 0) (a 0) i) [] 933) : V x (wHS x.g b hs n0 n1 n2 ζ η δ χ ++ wM x.g a μ) (L0 bs (b 11 0) (a 0) i) [] 859 := by
  obtain ⟨r, n2', δ', μ', f1, f2, I⟩ := sim_leftWithout S (by omega) n2 δ (xs (i + 1)) (xs (i + 2))
  refine v_aload_n X (pc := 859) dL_law_859 rfl 1 rfl ?_
  refine v_arg X (pc := 860) (k := 1) hX hbl hbA (by omega) h31 (by decide) dL_law_860 dL_law_861 dL_law_862 dL_law_863 dL_law_864 ?_
  refine v_arg X (pc := 865) (k := 2) hX hbl hbA (by omega) h31 (by decide) dL_law_865 dL_law_866 dL_law_867 dL_law_868 dL_law_869 ?_
  refine v_callV X (pc := 870) (st1 := [.int r]) (w' := wHS x.g b hs n0 n1 n2' ζ η δ' χ ++ wM x.g a μ) [.int (xs (i + 1)), .int (xs (i + 2))] [] (c_X5_leftWithout x.l x.g b hs n0 n1 n2 ζ η δ χ (xs (i + 1)) (xs (i + 2)) f1) rfl rfl cw_X5_leftWithout q_650 q_651 q_652 ⟨by decide, by decide⟩ 0 5 rfl rfl rfl (Fr.left rfl) rfl (Nat.le_of_ble_eq_true rfl) dL_law_870 ?_
  refine v_aload_n X (pc := 873) dL_law_873 rfl 2 rfl ?_
  refine v_arg X (pc := 874) (k := 1) hX hbl hbA (by omega) h31 (by decide) dL_law_874 dL_law_875 dL_law_876 dL_law_877 dL_law_878 ?_
  refine v_arg X (pc := 879) (k := 2) hX hbl hbA (by omega) h31 (by decide) dL_law_879 dL_law_880 dL_law_881 dL_law_882 dL_law_883 ?_
  refine v_callV X (pc := 884) (st1 := [.int r, .int r]) (w' := wHS x.g b hs n0 n1 n2' ζ η δ' χ ++ wM x.g a μ') [.int (xs (i + 1)), .int (xs (i + 2))] [.int r] (c_X6_leftWithout x.l x.g a μ (xs (i + 1)) (xs (i + 2)) f2) rfl rfl cw_X6_leftWithout q_943 q_944 q_945 ⟨by decide, by decide⟩ 103 6 rfl rfl rfl (Fr.right rfl) rfl (Nat.le_of_ble_eq_true rfl) dL_law_884 ?_
  exact v_icmpeq X (pc := 887) (tgt := 933) dL_law_887 (by decide) (fun _ => kk hs n0 n1 n2' ζ η δ' χ μ' I) (fun c => absurd rfl c)
