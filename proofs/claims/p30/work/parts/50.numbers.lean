set_option maxHeartbeats 4000000 in
set_option maxRecDepth 100000 in
theorem c_L_numbers (l : Launch) (g : Gl) (b : Nat → Nat → Nat) {N : Nat} {G : NB} {z : Nat} {H : Nat → NB} {P : Option NB} {hs : Int32} {n0 n1 : Blk} {ζ : Row} {η : Nat → Blk} (S : St N G z H P hs n0 n1 ζ η) (n2 : Blk) (δ : Row) (χ : Blk) : OkP l g yL_numbers cL_numbers 4 (some .int) 8 200 [.ref (b 11 0)] (wHS g b hs n0 n1 n2 ζ η δ χ) (some (.int (NUM G))) (fun w' => ∃ δ' : Row, w' = wHS g b hs n0 n1 n2 ζ η δ' χ) := by
  refine OkP.of RL (by decide) rfl (Nat.le_of_ble_eq_true rfl) (fun x hl hg X F => ?_)
  subst hg; subst hl
  have hR : 8 ≤ 8 ∧ 200 ≤ 200 := ⟨Nat.le_refl _, Nat.le_refl _⟩
  have hm := S.wf.2.1.1
  have L3 : ∀ (d k : Nat) (δ : Row), k + d = 12 → V x (wHS x.g b hs n0 n1 n2 ζ η δ χ) [(0, .ref (b 11 0)), (1, .int (n3O G (n2O G (n1I G 11) 5) k)), (2, .int (nI k))] [] 70 := by
    intro d
    induction d with
    | zero =>
      intro k δ hk
      obtain rfl : k = 12 := by omega
      refine v_iload_n X (pc := 70) dL_numbers_70 rfl 2 rfl ?_
      refine v_bipush X (pc := 71) (v := nI 12) dL_numbers_71 (by decide) ?_
      refine v_icmpge X (pc := 73) (tgt := 151) dL_numbers_73 (by decide) (fun _ => ?_) (fun cc => False.elim (cc (nI_le (by omega) (by omega))))
      refine v_iload_n X (pc := 151) dL_numbers_151 rfl 1 rfl ?_
      exact v_zretP X (pc := 152) F ⟨δ, rfl⟩ rfl dL_numbers_152
    | succ d ih =>
      intro k δ hk
      have In : ∀ (e c : Nat) (δ : Row), c + e = 4 → V x (wHS x.g b hs n0 n1 n2 ζ η δ χ) [(0, .ref (b 11 0)), (1, .int (n3I G k (n3O G (n2O G (n1I G 11) 5) k) c)), (2, .int (nI k)), (3, .int (nI c))] [] 78 := by
        intro e
        induction e with
        | zero =>
          intro c δ hc
          obtain rfl : c = 4 := by omega
          refine v_iload_n X (pc := 78) dL_numbers_78 rfl 3 rfl ?_
          refine v_iconst X (pc := 79) (v := nI 4) dL_numbers_79 (by decide) ?_
          refine v_icmpge X (pc := 80) (tgt := 124) dL_numbers_80 (by decide) (fun _ => ?_) (fun cc => False.elim (cc (nI_le (by omega) (by omega))))
          refine v_bipush X (pc := 124) (v := nI 31) dL_numbers_124 (by decide) ?_
          refine v_iload_n X (pc := 126) dL_numbers_126 rfl 1 rfl ?_
          refine v_imul X (pc := 127) dL_numbers_127 ?_
          refine v_aload_n X (pc := 128) dL_numbers_128 rfl 0 rfl ?_
          refine v_iload_n X (pc := 129) dL_numbers_129 rfl 2 rfl ?_
          refine v_iconst X (pc := 130) (v := nI 2) dL_numbers_130 (by decide) ?_
          refine r_stileOf X hR S (by omega) (by decide) (Nat.le_of_ble_eq_true rfl) dL_numbers_131 ?_
          refine v_iadd X (pc := 134) dL_numbers_134 ?_
          refine v_iconst X (pc := 135) (v := nI 5) dL_numbers_135 (by decide) ?_
          refine v_aload_n X (pc := 136) dL_numbers_136 rfl 0 rfl ?_
          refine v_iload_n X (pc := 137) dL_numbers_137 rfl 2 rfl ?_
          refine v_iconst X (pc := 138) (v := nI 3) dL_numbers_138 (by decide) ?_
          refine r_stileOf X hR S (by omega) (by decide) (Nat.le_of_ble_eq_true rfl) dL_numbers_139 ?_
          refine v_imul X (pc := 142) dL_numbers_142 ?_
          refine v_iadd X (pc := 143) dL_numbers_143 ?_
          refine v_istore_n X (pc := 144) (L2 := [(1, .int ((((nI 31) * (n3I G k (n3O G (n2O G (n1I G 11) 5) k) 4)) + (soI G k 2)) + ((nI 5) * (soI G k 3)))), (0, .ref (b 11 0)), (2, .int (nI k)), (3, .int (nI 4))]) dL_numbers_144 rfl (by decide) rfl ?_
          refine v_iinc X (pc := 145) (v := nI (k + 1)) (L2 := [(2, .int (nI (k + 1))), (1, .int ((((nI 31) * (n3I G k (n3O G (n2O G (n1I G 11) 5) k) 4)) + (soI G k 2)) + ((nI 5) * (soI G k 3)))), (0, .ref (b 11 0)), (3, .int (nI 4))]) dL_numbers_145 2 rfl (by rw [show Int32.ofInt 1 = nI 1 by decide, nI_add]) (by decide) rfl ?_
          refine v_goto X (pc := 148) (tgt := 70) dL_numbers_148 (by decide) ?_
          refine v_sub (L2 := [(0, .ref (b 11 0)), (1, .int (n3O G (n2O G (n1I G 11) 5) (k + 1))), (2, .int (nI (k + 1)))]) [2, 1, 0] rfl ?_
          exact ih (k + 1) δ (by omega)
        | succ e ih2 =>
          intro c δ hc
          refine v_iload_n X (pc := 78) dL_numbers_78 rfl 3 rfl ?_
          refine v_iconst X (pc := 79) (v := nI 4) dL_numbers_79 (by decide) ?_
          refine v_icmpge X (pc := 80) (tgt := 124) dL_numbers_80 (by decide) (fun cc => absurd cc (nI_ge (by omega) (by omega))) (fun _ => ?_)
          refine v_bipush X (pc := 83) (v := nI 31) dL_numbers_83 (by decide) ?_
          refine v_iload_n X (pc := 85) dL_numbers_85 rfl 1 rfl ?_
          refine v_imul X (pc := 86) dL_numbers_86 ?_
          refine v_aload_n X (pc := 87) dL_numbers_87 rfl 0 rfl ?_
          refine v_iload_n X (pc := 88) dL_numbers_88 rfl 2 rfl ?_
          refine v_iload_n X (pc := 89) dL_numbers_89 rfl 3 rfl ?_
          refine v_iconst X (pc := 90) (v := nI 0) dL_numbers_90 (by decide) ?_
          refine r_counter X hR S (by omega) (by omega) (by decide) (Nat.le_of_ble_eq_true rfl) dL_numbers_91 ?_
          refine v_iadd X (pc := 94) dL_numbers_94 ?_
          refine v_bipush X (pc := 95) (v := nI 7) dL_numbers_95 (by decide) ?_
          refine v_aload_n X (pc := 97) dL_numbers_97 rfl 0 rfl ?_
          refine v_iload_n X (pc := 98) dL_numbers_98 rfl 2 rfl ?_
          refine v_iload_n X (pc := 99) dL_numbers_99 rfl 3 rfl ?_
          refine v_iconst X (pc := 100) (v := nI 1) dL_numbers_100 (by decide) ?_
          refine r_counter X hR S (by omega) (by omega) (by decide) (Nat.le_of_ble_eq_true rfl) dL_numbers_101 ?_
          refine v_imul X (pc := 104) dL_numbers_104 ?_
          refine v_iadd X (pc := 105) dL_numbers_105 ?_
          refine v_bipush X (pc := 106) (v := nI 13) dL_numbers_106 (by decide) ?_
          refine v_aload_n X (pc := 108) dL_numbers_108 rfl 0 rfl ?_
          refine v_iload_n X (pc := 109) dL_numbers_109 rfl 2 rfl ?_
          refine v_iload_n X (pc := 110) dL_numbers_110 rfl 3 rfl ?_
          refine v_iconst X (pc := 111) (v := nI 2) dL_numbers_111 (by decide) ?_
          refine r_counter X hR S (by omega) (by omega) (by decide) (Nat.le_of_ble_eq_true rfl) dL_numbers_112 ?_
          refine v_imul X (pc := 115) dL_numbers_115 ?_
          refine v_iadd X (pc := 116) dL_numbers_116 ?_
          refine v_istore_n X (pc := 117) (L2 := [(1, .int (((((nI 31) * (n3I G k (n3O G (n2O G (n1I G 11) 5) k) c)) + (coI G k c 0)) + ((nI 7) * (coI G k c 1))) + ((nI 13) * (coI G k c 2)))), (0, .ref (b 11 0)), (2, .int (nI k)), (3, .int (nI c))]) dL_numbers_117 rfl (by decide) rfl ?_
          refine v_iinc X (pc := 118) (v := nI (c + 1)) (L2 := [(3, .int (nI (c + 1))), (1, .int (((((nI 31) * (n3I G k (n3O G (n2O G (n1I G 11) 5) k) c)) + (coI G k c 0)) + ((nI 7) * (coI G k c 1))) + ((nI 13) * (coI G k c 2)))), (0, .ref (b 11 0)), (2, .int (nI k))]) dL_numbers_118 3 rfl (by rw [show Int32.ofInt 1 = nI 1 by decide, nI_add]) (by decide) rfl ?_
          refine v_goto X (pc := 121) (tgt := 78) dL_numbers_121 (by decide) ?_
          refine v_sub (L2 := [(0, .ref (b 11 0)), (1, .int (n3I G k (n3O G (n2O G (n1I G 11) 5) k) (c + 1))), (2, .int (nI k)), (3, .int (nI (c + 1)))]) [2, 1, 3, 0] rfl ?_
          exact ih2 (c + 1) δ (by omega)
      refine v_iload_n X (pc := 70) dL_numbers_70 rfl 2 rfl ?_
      refine v_bipush X (pc := 71) (v := nI 12) dL_numbers_71 (by decide) ?_
      refine v_icmpge X (pc := 73) (tgt := 151) dL_numbers_73 (by decide) (fun cc => absurd cc (nI_ge (by omega) (by omega))) (fun _ => ?_)
      refine v_iconst X (pc := 76) (v := nI 0) dL_numbers_76 (by decide) ?_
      refine v_istore_n X (pc := 77) (L2 := [(3, .int (nI 0)), (0, .ref (b 11 0)), (1, .int (n3O G (n2O G (n1I G 11) 5) k)), (2, .int (nI k))]) dL_numbers_77 rfl (by decide) rfl ?_
      refine v_sub (L2 := [(0, .ref (b 11 0)), (1, .int (n3I G k (n3O G (n2O G (n1I G 11) 5) k) 0)), (2, .int (nI k)), (3, .int (nI 0))]) [1, 2, 3, 0] rfl ?_
      exact In 4 0 δ rfl
  have L2 : ∀ (d j : Nat) (δ : Row), j + d = 5 → V x (wHS x.g b hs n0 n1 n2 ζ η δ χ) [(0, .ref (b 11 0)), (1, .int (n2O G (n1I G 11) j)), (2, .int (nI (j + 1)))] [] 30 := by
    intro d
    induction d with
    | zero =>
      intro j δ hj
      obtain rfl : j = 5 := by omega
      refine v_iload_n X (pc := 30) dL_numbers_30 rfl 2 rfl ?_
      refine v_bipush X (pc := 31) (v := nI 6) dL_numbers_31 (by decide) ?_
      refine v_icmpge X (pc := 33) (tgt := 68) dL_numbers_33 (by decide) (fun _ => ?_) (fun cc => False.elim (cc (nI_le (by omega) (by omega))))
      refine v_iconst X (pc := 68) (v := nI 0) dL_numbers_68 (by decide) ?_
      refine v_istore_n X (pc := 69) (L2 := [(2, .int (nI 0)), (0, .ref (b 11 0)), (1, .int (n2O G (n1I G 11) 5))]) dL_numbers_69 rfl (by decide) rfl ?_
      refine v_sub (L2 := [(0, .ref (b 11 0)), (1, .int (n3O G (n2O G (n1I G 11) 5) 0)), (2, .int (nI 0))]) [1, 2, 0] rfl ?_
      exact L3 12 0 δ rfl
    | succ d ih =>
      intro j δ hj
      have In : ∀ (e k : Nat) (δ : Row), k + e = 6 → V x (wHS x.g b hs n0 n1 n2 ζ η δ χ) [(0, .ref (b 11 0)), (1, .int (n2I G (j + 1) (n2O G (n1I G 11) j) k)), (2, .int (nI (j + 1))), (3, .int (nI k))] [] 38 := by
        intro e
        induction e with
        | zero =>
          intro k δ hk
          obtain rfl : k = 6 := by omega
          refine v_iload_n X (pc := 38) dL_numbers_38 rfl 3 rfl ?_
          refine v_bipush X (pc := 39) (v := nI 6) dL_numbers_39 (by decide) ?_
          refine v_icmpge X (pc := 41) (tgt := 62) dL_numbers_41 (by decide) (fun _ => ?_) (fun cc => False.elim (cc (nI_le (by omega) (by omega))))
          refine v_iinc X (pc := 62) (v := nI ((j + 1) + 1)) (L2 := [(2, .int (nI ((j + 1) + 1))), (0, .ref (b 11 0)), (1, .int (n2I G (j + 1) (n2O G (n1I G 11) j) 6)), (3, .int (nI 6))]) dL_numbers_62 2 rfl (by rw [show Int32.ofInt 1 = nI 1 by decide, nI_add]) (by decide) rfl ?_
          refine v_goto X (pc := 65) (tgt := 30) dL_numbers_65 (by decide) ?_
          refine v_sub (L2 := [(0, .ref (b 11 0)), (1, .int (n2O G (n1I G 11) (j + 1))), (2, .int (nI ((j + 1) + 1)))]) [1, 2, 0] rfl ?_
          exact ih (j + 1) δ (by omega)
        | succ e ih2 =>
          intro k δ hk
          refine v_iload_n X (pc := 38) dL_numbers_38 rfl 3 rfl ?_
          refine v_bipush X (pc := 39) (v := nI 6) dL_numbers_39 (by decide) ?_
          refine v_icmpge X (pc := 41) (tgt := 62) dL_numbers_41 (by decide) (fun cc => absurd cc (nI_ge (by omega) (by omega))) (fun _ => ?_)
          refine v_bipush X (pc := 44) (v := nI 31) dL_numbers_44 (by decide) ?_
          refine v_iload_n X (pc := 46) dL_numbers_46 rfl 1 rfl ?_
          refine v_imul X (pc := 47) dL_numbers_47 ?_
          refine v_aload_n X (pc := 48) dL_numbers_48 rfl 0 rfl ?_
          refine v_iload_n X (pc := 49) dL_numbers_49 rfl 2 rfl ?_
          refine v_iload_n X (pc := 50) dL_numbers_50 rfl 3 rfl ?_
          refine r_hall X hR S (by omega) (by omega) (by omega) (Nat.le_of_ble_eq_true rfl) dL_numbers_51 (fun δ => ?_)
          refine v_iadd X (pc := 54) dL_numbers_54 ?_
          refine v_istore_n X (pc := 55) (L2 := [(1, .int (((nI 31) * (n2I G (j + 1) (n2O G (n1I G 11) j) k)) + (haI G (j + 1) k))), (0, .ref (b 11 0)), (2, .int (nI (j + 1))), (3, .int (nI k))]) dL_numbers_55 rfl (by decide) rfl ?_
          refine v_iinc X (pc := 56) (v := nI (k + 1)) (L2 := [(3, .int (nI (k + 1))), (1, .int (((nI 31) * (n2I G (j + 1) (n2O G (n1I G 11) j) k)) + (haI G (j + 1) k))), (0, .ref (b 11 0)), (2, .int (nI (j + 1)))]) dL_numbers_56 3 rfl (by rw [show Int32.ofInt 1 = nI 1 by decide, nI_add]) (by decide) rfl ?_
          refine v_goto X (pc := 59) (tgt := 38) dL_numbers_59 (by decide) ?_
          refine v_sub (L2 := [(0, .ref (b 11 0)), (1, .int (n2I G (j + 1) (n2O G (n1I G 11) j) (k + 1))), (2, .int (nI (j + 1))), (3, .int (nI (k + 1)))]) [2, 1, 3, 0] rfl ?_
          exact ih2 (k + 1) δ (by omega)
      refine v_iload_n X (pc := 30) dL_numbers_30 rfl 2 rfl ?_
      refine v_bipush X (pc := 31) (v := nI 6) dL_numbers_31 (by decide) ?_
      refine v_icmpge X (pc := 33) (tgt := 68) dL_numbers_33 (by decide) (fun cc => absurd cc (nI_ge (by omega) (by omega))) (fun _ => ?_)
      refine v_iconst X (pc := 36) (v := nI 0) dL_numbers_36 (by decide) ?_
      refine v_istore_n X (pc := 37) (L2 := [(3, .int (nI 0)), (0, .ref (b 11 0)), (1, .int (n2O G (n1I G 11) j)), (2, .int (nI (j + 1)))]) dL_numbers_37 rfl (by decide) rfl ?_
      refine v_sub (L2 := [(0, .ref (b 11 0)), (1, .int (n2I G (j + 1) (n2O G (n1I G 11) j) 0)), (2, .int (nI (j + 1))), (3, .int (nI 0))]) [1, 2, 3, 0] rfl ?_
      exact In 6 0 δ rfl
  have L1 : ∀ (d k : Nat) (δ : Row), k + d = 11 → V x (wHS x.g b hs n0 n1 n2 ζ η δ χ) [(0, .ref (b 11 0)), (1, .int (n1I G k)), (2, .int (nI k))] [] 5 := by
    intro d
    induction d with
    | zero =>
      intro k δ hk
      obtain rfl : k = 11 := by omega
      refine v_iload_n X (pc := 5) dL_numbers_5 rfl 2 rfl ?_
      refine v_bipush X (pc := 6) (v := nI 11) dL_numbers_6 (by decide) ?_
      refine v_icmpge X (pc := 8) (tgt := 28) dL_numbers_8 (by decide) (fun _ => ?_) (fun cc => False.elim (cc (nI_le (by omega) (by omega))))
      refine v_iconst X (pc := 28) (v := nI 1) dL_numbers_28 (by decide) ?_
      refine v_istore_n X (pc := 29) (L2 := [(2, .int (nI 1)), (0, .ref (b 11 0)), (1, .int (n1I G 11))]) dL_numbers_29 rfl (by decide) rfl ?_
      refine v_sub (L2 := [(0, .ref (b 11 0)), (1, .int (n2O G (n1I G 11) 0)), (2, .int (nI (0 + 1)))]) [1, 2, 0] rfl ?_
      exact L2 5 0 δ rfl
    | succ d ih =>
      intro k δ hk
      refine v_iload_n X (pc := 5) dL_numbers_5 rfl 2 rfl ?_
      refine v_bipush X (pc := 6) (v := nI 11) dL_numbers_6 (by decide) ?_
      refine v_icmpge X (pc := 8) (tgt := 28) dL_numbers_8 (by decide) (fun cc => absurd cc (nI_ge (by omega) (by omega))) (fun _ => ?_)
      refine v_bipush X (pc := 11) (v := nI 31) dL_numbers_11 (by decide) ?_
      refine v_iload_n X (pc := 13) dL_numbers_13 rfl 1 rfl ?_
      refine v_imul X (pc := 14) dL_numbers_14 ?_
      refine v_aload_n X (pc := 15) dL_numbers_15 rfl 0 rfl ?_
      refine v_iload_n X (pc := 16) dL_numbers_16 rfl 2 rfl ?_
      refine r_count X hR S (by omega) (Nat.le_of_ble_eq_true rfl) dL_numbers_17 ?_
      refine v_iadd X (pc := 20) dL_numbers_20 ?_
      refine v_istore_n X (pc := 21) (L2 := [(1, .int (((nI 31) * (n1I G k)) + (ctI G k))), (0, .ref (b 11 0)), (2, .int (nI k))]) dL_numbers_21 rfl (by decide) rfl ?_
      refine v_iinc X (pc := 22) (v := nI (k + 1)) (L2 := [(2, .int (nI (k + 1))), (1, .int (((nI 31) * (n1I G k)) + (ctI G k))), (0, .ref (b 11 0))]) dL_numbers_22 2 rfl (by rw [show Int32.ofInt 1 = nI 1 by decide, nI_add]) (by decide) rfl ?_
      refine v_goto X (pc := 25) (tgt := 5) dL_numbers_25 (by decide) ?_
      refine v_sub (L2 := [(0, .ref (b 11 0)), (1, .int (n1I G (k + 1))), (2, .int (nI (k + 1)))]) [2, 1, 0] rfl ?_
      exact ih (k + 1) δ (by omega)
  show V x (wHS x.g b hs n0 n1 n2 ζ η δ χ) [(0, .ref (b 11 0))] [] 0
  refine v_bipush X (pc := 0) (v := nI 11) dL_numbers_0 (by decide) ?_
  refine v_istore_n X (pc := 2) (L2 := [(1, .int (nI 11)), (0, .ref (b 11 0))]) dL_numbers_2 rfl (by decide) rfl ?_
  refine v_iconst X (pc := 3) (v := nI 0) dL_numbers_3 (by decide) ?_
  refine v_istore_n X (pc := 4) (L2 := [(2, .int (nI 0)), (1, .int (nI 11)), (0, .ref (b 11 0))]) dL_numbers_4 rfl (by decide) rfl ?_
  refine v_sub (L2 := [(0, .ref (b 11 0)), (1, .int (n1I G 0)), (2, .int (nI 0))]) [2, 1, 0] rfl ?_
  exact L1 11 0 δ rfl
theorem cw_L_numbers : CwB yL_numbers cL_numbers 4 (some .int) 1 := ⟨q_504, q_13, by decide, by decide, by decide +kernel⟩
