set_option maxHeartbeats 4000000 in
set_option maxRecDepth 100000 in
theorem acts_stile (l : Launch) (g : Gl) (b : Nat → Nat → Nat) {N : Nat} {G : NB} {z : Nat} {H : Nat → NB} {P : Option NB} {hs : Int32} {n0 n1 : Blk} {ζ : Row} {η : Nat → Blk} (S : St N G z H P hs n0 n1 ζ η) (hN : N + 600000 ≤ 536870912) (n2 : Blk) (δ : Row) (χ : Blk) {Y : Nat} (hY : Y < 2 ^ 31) (hj : Y % 16 = 0) : ∃ r n0' ζ' η' δ', Don N G z H P hs n0 n1 ζ η (EA G Y) r n0' ζ' η' ∧ Ok l g yL_acts cL_acts 3 (some .int) 8 200 [.ref (b 11 0), .int (nI Y)] (wHS g b hs n0 n1 n2 ζ η δ χ) (some (.int r)) (wHS g b hs n0' n1 n2 ζ' η' δ' χ) := by
  obtain ⟨r, n0', ζ', η', f, D⟩ := k_stile S hN n2 δ χ (nI ((Y / 16) % 6)) (nI (((Y / 16) / 6) % 7))
  refine ⟨r, n0', ζ', η', δ, D.weak (fun _ _ _ => ⟨fun h => by omega, fun h => by omega⟩), ?_⟩
  refine Ok.of RL (by decide) rfl (Nat.le_of_ble_eq_true rfl) (fun x hl hg X F => ?_)
  subst hg; subst hl
  show V x (wHS x.g b hs n0 n1 n2 ζ η δ χ) [(0, .ref (b 11 0)), (1, .int (nI Y))] [] 0
  refine v_iload_n X (pc := 0) dL_acts_0 rfl 1 rfl ?_
  refine v_bipush X (pc := 1) (v := nI 16) dL_acts_1 (by decide) ?_
  refine v_idiv X (pc := 3) dL_acts_3 (by decide) ?_
  refine v_top (b := nI (Y / 16)) (pk_div (by omega) (by decide) (by decide)) ?_
  refine v_istore_n X (pc := 4) (L2 := [(2, .int (nI (Y / 16))), (0, .ref (b 11 0)), (1, .int (nI Y))]) dL_acts_4 rfl (by decide) rfl ?_
  refine v_iload_n X (pc := 5) dL_acts_5 rfl 2 rfl ?_
  refine v_bipush X (pc := 6) (v := nI 16) dL_acts_6 (by decide) ?_
  refine v_irem X (pc := 8) dL_acts_8 (by decide) ?_
  refine v_top (b := nI (Y % 16)) (pk_rem (by omega) (by decide) (by decide)) ?_
  have h16 : (nI (Y % 16)).toInt = 0 := by rw [nI_toInt (by omega)]; omega
  refine v_tswIn X (pc := 9) (tgt := 64) (off := 55) dL_acts_9 (by omega) (by omega) (by rw [h16]; rfl) (by decide) ?_
  refine v_aload_n X (pc := 64) dL_acts_64 rfl 1 rfl ?_
  refine v_iload_n X (pc := 65) dL_acts_65 rfl 0 rfl ?_
  refine v_bipush X (pc := 66) (v := nI 6) dL_acts_66 (by decide) ?_
  refine v_irem X (pc := 68) dL_acts_68 (by decide) ?_
  refine v_top (b := nI ((Y / 16) % 6)) (pk_rem (by omega) (by decide) (by decide)) ?_
  refine v_iload_n X (pc := 69) dL_acts_69 rfl 0 rfl ?_
  refine v_bipush X (pc := 70) (v := nI 6) dL_acts_70 (by decide) ?_
  refine v_idiv X (pc := 72) dL_acts_72 (by decide) ?_
  refine v_top (b := nI ((Y / 16) / 6)) (pk_div (by omega) (by decide) (by decide)) ?_
  refine v_bipush X (pc := 73) (v := nI 7) dL_acts_73 (by decide) ?_
  refine v_irem X (pc := 75) dL_acts_75 (by decide) ?_
  refine v_top (b := nI (((Y / 16) / 6) % 7)) (pk_rem (by omega) (by decide) (by decide)) ?_
  refine v_callV X (pc := 76) (st1 := [.int r]) (w' := wHS x.g b hs n0' n1 n2 ζ' η' δ χ) [.int (nI ((Y / 16) % 6)), .int (nI (((Y / 16) / 6) % 7))] [] (c_X5_stile x.l x.g b hs n0 n1 n2 ζ η δ χ (nI ((Y / 16) % 6)) (nI (((Y / 16) / 6) % 7)) f) rfl rfl cw_X5_stile q_316 q_317 q_318 ⟨by decide, by decide⟩ 0 5 rfl rfl rfl (Fr.all rfl) rfl (Nat.le_of_ble_eq_true rfl) dL_acts_76 ?_
  exact v_iret X (pc := 79) F dL_acts_79
set_option maxHeartbeats 4000000 in
set_option maxRecDepth 100000 in
theorem acts_open (l : Launch) (g : Gl) (b : Nat → Nat → Nat) {N : Nat} {G : NB} {z : Nat} {H : Nat → NB} {P : Option NB} {hs : Int32} {n0 n1 : Blk} {ζ : Row} {η : Nat → Blk} (S : St N G z H P hs n0 n1 ζ η) (hN : N + 600000 ≤ 536870912) (n2 : Blk) (δ : Row) (χ : Blk) {Y : Nat} (hY : Y < 2 ^ 31) (hj : Y % 16 = 1) : ∃ r n0' ζ' η' δ', Don N G z H P hs n0 n1 ζ η (EA G Y) r n0' ζ' η' ∧ Ok l g yL_acts cL_acts 3 (some .int) 8 200 [.ref (b 11 0), .int (nI Y)] (wHS g b hs n0 n1 n2 ζ η δ χ) (some (.int r)) (wHS g b hs n0' n1 n2 ζ' η' δ' χ) := by
  obtain ⟨r, n0', ζ', η', f, D⟩ := k_open S hN n2 δ χ (nI ((Y / 16) % 9)) (nI (((Y / 16) / 9) % 5))
  refine ⟨r, n0', ζ', η', δ, D.weak (fun _ _ _ => ⟨fun h => by omega, fun h => by omega⟩), ?_⟩
  refine Ok.of RL (by decide) rfl (Nat.le_of_ble_eq_true rfl) (fun x hl hg X F => ?_)
  subst hg; subst hl
  show V x (wHS x.g b hs n0 n1 n2 ζ η δ χ) [(0, .ref (b 11 0)), (1, .int (nI Y))] [] 0
  refine v_iload_n X (pc := 0) dL_acts_0 rfl 1 rfl ?_
  refine v_bipush X (pc := 1) (v := nI 16) dL_acts_1 (by decide) ?_
  refine v_idiv X (pc := 3) dL_acts_3 (by decide) ?_
  refine v_top (b := nI (Y / 16)) (pk_div (by omega) (by decide) (by decide)) ?_
  refine v_istore_n X (pc := 4) (L2 := [(2, .int (nI (Y / 16))), (0, .ref (b 11 0)), (1, .int (nI Y))]) dL_acts_4 rfl (by decide) rfl ?_
  refine v_iload_n X (pc := 5) dL_acts_5 rfl 2 rfl ?_
  refine v_bipush X (pc := 6) (v := nI 16) dL_acts_6 (by decide) ?_
  refine v_irem X (pc := 8) dL_acts_8 (by decide) ?_
  refine v_top (b := nI (Y % 16)) (pk_rem (by omega) (by decide) (by decide)) ?_
  have h16 : (nI (Y % 16)).toInt = 1 := by rw [nI_toInt (by omega)]; omega
  refine v_tswIn X (pc := 9) (tgt := 80) (off := 71) dL_acts_9 (by omega) (by omega) (by rw [h16]; rfl) (by decide) ?_
  refine v_aload_n X (pc := 80) dL_acts_80 rfl 1 rfl ?_
  refine v_iload_n X (pc := 81) dL_acts_81 rfl 0 rfl ?_
  refine v_bipush X (pc := 82) (v := nI 9) dL_acts_82 (by decide) ?_
  refine v_irem X (pc := 84) dL_acts_84 (by decide) ?_
  refine v_top (b := nI ((Y / 16) % 9)) (pk_rem (by omega) (by decide) (by decide)) ?_
  refine v_iload_n X (pc := 85) dL_acts_85 rfl 0 rfl ?_
  refine v_bipush X (pc := 86) (v := nI 9) dL_acts_86 (by decide) ?_
  refine v_idiv X (pc := 88) dL_acts_88 (by decide) ?_
  refine v_top (b := nI ((Y / 16) / 9)) (pk_div (by omega) (by decide) (by decide)) ?_
  refine v_iconst X (pc := 89) (v := nI 5) dL_acts_89 (by decide) ?_
  refine v_irem X (pc := 90) dL_acts_90 (by decide) ?_
  refine v_top (b := nI (((Y / 16) / 9) % 5)) (pk_rem (by omega) (by decide) (by decide)) ?_
  refine v_callV X (pc := 91) (st1 := [.int r]) (w' := wHS x.g b hs n0' n1 n2 ζ' η' δ χ) [.int (nI ((Y / 16) % 9)), .int (nI (((Y / 16) / 9) % 5))] [] (c_X5_open x.l x.g b hs n0 n1 n2 ζ η δ χ (nI ((Y / 16) % 9)) (nI (((Y / 16) / 9) % 5)) f) rfl rfl cw_X5_open q_331 q_332 q_333 ⟨by decide, by decide⟩ 0 5 rfl rfl rfl (Fr.all rfl) rfl (Nat.le_of_ble_eq_true rfl) dL_acts_91 ?_
  exact v_iret X (pc := 94) F dL_acts_94
set_option maxHeartbeats 4000000 in
set_option maxRecDepth 100000 in
theorem acts_room (l : Launch) (g : Gl) (b : Nat → Nat → Nat) {N : Nat} {G : NB} {z : Nat} {H : Nat → NB} {P : Option NB} {hs : Int32} {n0 n1 : Blk} {ζ : Row} {η : Nat → Blk} (S : St N G z H P hs n0 n1 ζ η) (hN : N + 600000 ≤ 536870912) (n2 : Blk) (δ : Row) (χ : Blk) {Y : Nat} (hY : Y < 2 ^ 31) (hj : Y % 16 = 2) : ∃ r n0' ζ' η' δ', Don N G z H P hs n0 n1 ζ η (EA G Y) r n0' ζ' η' ∧ Ok l g yL_acts cL_acts 3 (some .int) 8 200 [.ref (b 11 0), .int (nI Y)] (wHS g b hs n0 n1 n2 ζ η δ χ) (some (.int r)) (wHS g b hs n0' n1 n2 ζ' η' δ' χ) := by
  obtain ⟨r, n0', ζ', η', f, D⟩ := k_room S hN n2 δ χ (nI ((Y / 16) % 6)) (nI (((Y / 16) / 6) % 150))
  refine ⟨r, n0', ζ', η', δ, D.weak (fun _ _ _ => ⟨fun h => by omega, fun h => by omega⟩), ?_⟩
  refine Ok.of RL (by decide) rfl (Nat.le_of_ble_eq_true rfl) (fun x hl hg X F => ?_)
  subst hg; subst hl
  show V x (wHS x.g b hs n0 n1 n2 ζ η δ χ) [(0, .ref (b 11 0)), (1, .int (nI Y))] [] 0
  refine v_iload_n X (pc := 0) dL_acts_0 rfl 1 rfl ?_
  refine v_bipush X (pc := 1) (v := nI 16) dL_acts_1 (by decide) ?_
  refine v_idiv X (pc := 3) dL_acts_3 (by decide) ?_
  refine v_top (b := nI (Y / 16)) (pk_div (by omega) (by decide) (by decide)) ?_
  refine v_istore_n X (pc := 4) (L2 := [(2, .int (nI (Y / 16))), (0, .ref (b 11 0)), (1, .int (nI Y))]) dL_acts_4 rfl (by decide) rfl ?_
  refine v_iload_n X (pc := 5) dL_acts_5 rfl 2 rfl ?_
  refine v_bipush X (pc := 6) (v := nI 16) dL_acts_6 (by decide) ?_
  refine v_irem X (pc := 8) dL_acts_8 (by decide) ?_
  refine v_top (b := nI (Y % 16)) (pk_rem (by omega) (by decide) (by decide)) ?_
  have h16 : (nI (Y % 16)).toInt = 2 := by rw [nI_toInt (by omega)]; omega
  refine v_tswIn X (pc := 9) (tgt := 95) (off := 86) dL_acts_9 (by omega) (by omega) (by rw [h16]; rfl) (by decide) ?_
  refine v_aload_n X (pc := 95) dL_acts_95 rfl 1 rfl ?_
  refine v_iload_n X (pc := 96) dL_acts_96 rfl 0 rfl ?_
  refine v_bipush X (pc := 97) (v := nI 6) dL_acts_97 (by decide) ?_
  refine v_irem X (pc := 99) dL_acts_99 (by decide) ?_
  refine v_top (b := nI ((Y / 16) % 6)) (pk_rem (by omega) (by decide) (by decide)) ?_
  refine v_iload_n X (pc := 100) dL_acts_100 rfl 0 rfl ?_
  refine v_bipush X (pc := 101) (v := nI 6) dL_acts_101 (by decide) ?_
  refine v_idiv X (pc := 103) dL_acts_103 (by decide) ?_
  refine v_top (b := nI ((Y / 16) / 6)) (pk_div (by omega) (by decide) (by decide)) ?_
  refine v_sipush X (pc := 104) (v := nI 150) dL_acts_104 (by decide) ?_
  refine v_irem X (pc := 107) dL_acts_107 (by decide) ?_
  refine v_top (b := nI (((Y / 16) / 6) % 150)) (pk_rem (by omega) (by decide) (by decide)) ?_
  refine v_callV X (pc := 108) (st1 := [.int r]) (w' := wHS x.g b hs n0' n1 n2 ζ' η' δ χ) [.int (nI ((Y / 16) % 6)), .int (nI (((Y / 16) / 6) % 150))] [] (c_X5_room x.l x.g b hs n0 n1 n2 ζ η δ χ (nI ((Y / 16) % 6)) (nI (((Y / 16) / 6) % 150)) f) rfl rfl cw_X5_room q_336 q_337 q_338 ⟨by decide, by decide⟩ 0 5 rfl rfl rfl (Fr.all rfl) rfl (Nat.le_of_ble_eq_true rfl) dL_acts_108 ?_
  exact v_iret X (pc := 111) F dL_acts_111
set_option maxHeartbeats 4000000 in
set_option maxRecDepth 100000 in
theorem acts_slip (l : Launch) (g : Gl) (b : Nat → Nat → Nat) {N : Nat} {G : NB} {z : Nat} {H : Nat → NB} {P : Option NB} {hs : Int32} {n0 n1 : Blk} {ζ : Row} {η : Nat → Blk} (S : St N G z H P hs n0 n1 ζ η) (hN : N + 600000 ≤ 536870912) (n2 : Blk) (δ : Row) (χ : Blk) {Y : Nat} (hY : Y < 2 ^ 31) (hj : Y % 16 = 3 ∨ Y % 16 = 4) : ∃ r n0' ζ' η' δ', Don N G z H P hs n0 n1 ζ η (EA G Y) r n0' ζ' η' ∧ Ok l g yL_acts cL_acts 3 (some .int) 8 200 [.ref (b 11 0), .int (nI Y)] (wHS g b hs n0 n1 n2 ζ η δ χ) (some (.int r)) (wHS g b hs n0' n1 n2 ζ' η' δ' χ) := by
  obtain ⟨r, n0', ζ', η', f, D⟩ := k_slip S hN n2 δ χ (nI ((Y / 16) % 9)) (nI (((Y / 16) / 9) % 5)) (nI (((Y / 16) / 45) % 10))
  refine ⟨r, n0', ζ', η', δ, D.weak (fun _ _ _ => ⟨fun h => by omega, fun h => by omega⟩), ?_⟩
  refine Ok.of RL (by decide) rfl (Nat.le_of_ble_eq_true rfl) (fun x hl hg X F => ?_)
  subst hg; subst hl
  show V x (wHS x.g b hs n0 n1 n2 ζ η δ χ) [(0, .ref (b 11 0)), (1, .int (nI Y))] [] 0
  refine v_iload_n X (pc := 0) dL_acts_0 rfl 1 rfl ?_
  refine v_bipush X (pc := 1) (v := nI 16) dL_acts_1 (by decide) ?_
  refine v_idiv X (pc := 3) dL_acts_3 (by decide) ?_
  refine v_top (b := nI (Y / 16)) (pk_div (by omega) (by decide) (by decide)) ?_
  refine v_istore_n X (pc := 4) (L2 := [(2, .int (nI (Y / 16))), (0, .ref (b 11 0)), (1, .int (nI Y))]) dL_acts_4 rfl (by decide) rfl ?_
  refine v_iload_n X (pc := 5) dL_acts_5 rfl 2 rfl ?_
  refine v_bipush X (pc := 6) (v := nI 16) dL_acts_6 (by decide) ?_
  refine v_irem X (pc := 8) dL_acts_8 (by decide) ?_
  refine v_top (b := nI (Y % 16)) (pk_rem (by omega) (by decide) (by decide)) ?_
  have h16 : (nI (Y % 16)).toInt = 3 ∨ (nI (Y % 16)).toInt = 4 := by rw [nI_toInt (by omega)]; omega
  refine v_tswIn X (pc := 9) (tgt := 112) (off := 103) dL_acts_9 (by omega) (by omega) (by rcases h16 with h | h <;> rw [h] <;> rfl) (by decide) ?_
  refine v_aload_n X (pc := 112) dL_acts_112 rfl 1 rfl ?_
  refine v_iload_n X (pc := 113) dL_acts_113 rfl 0 rfl ?_
  refine v_bipush X (pc := 114) (v := nI 9) dL_acts_114 (by decide) ?_
  refine v_irem X (pc := 116) dL_acts_116 (by decide) ?_
  refine v_top (b := nI ((Y / 16) % 9)) (pk_rem (by omega) (by decide) (by decide)) ?_
  refine v_iload_n X (pc := 117) dL_acts_117 rfl 0 rfl ?_
  refine v_bipush X (pc := 118) (v := nI 9) dL_acts_118 (by decide) ?_
  refine v_idiv X (pc := 120) dL_acts_120 (by decide) ?_
  refine v_top (b := nI ((Y / 16) / 9)) (pk_div (by omega) (by decide) (by decide)) ?_
  refine v_iconst X (pc := 121) (v := nI 5) dL_acts_121 (by decide) ?_
  refine v_irem X (pc := 122) dL_acts_122 (by decide) ?_
  refine v_top (b := nI (((Y / 16) / 9) % 5)) (pk_rem (by omega) (by decide) (by decide)) ?_
  refine v_iload_n X (pc := 123) dL_acts_123 rfl 0 rfl ?_
  refine v_bipush X (pc := 124) (v := nI 45) dL_acts_124 (by decide) ?_
  refine v_idiv X (pc := 126) dL_acts_126 (by decide) ?_
  refine v_top (b := nI ((Y / 16) / 45)) (pk_div (by omega) (by decide) (by decide)) ?_
  refine v_bipush X (pc := 127) (v := nI 10) dL_acts_127 (by decide) ?_
  refine v_irem X (pc := 129) dL_acts_129 (by decide) ?_
  refine v_top (b := nI (((Y / 16) / 45) % 10)) (pk_rem (by omega) (by decide) (by decide)) ?_
  refine v_callV X (pc := 130) (st1 := [.int r]) (w' := wHS x.g b hs n0' n1 n2 ζ' η' δ χ) [.int (nI ((Y / 16) % 9)), .int (nI (((Y / 16) / 9) % 5)), .int (nI (((Y / 16) / 45) % 10))] [] (c_X5_slip x.l x.g b hs n0 n1 n2 ζ η δ χ (nI ((Y / 16) % 9)) (nI (((Y / 16) / 9) % 5)) (nI (((Y / 16) / 45) % 10)) f) rfl rfl cw_X5_slip q_343 q_344 q_345 ⟨by decide, by decide⟩ 0 5 rfl rfl rfl (Fr.all rfl) rfl (Nat.le_of_ble_eq_true rfl) dL_acts_130 ?_
  exact v_iret X (pc := 133) F dL_acts_133
set_option maxHeartbeats 4000000 in
set_option maxRecDepth 100000 in
theorem acts_audit (l : Launch) (g : Gl) (b : Nat → Nat → Nat) {N : Nat} {G : NB} {z : Nat} {H : Nat → NB} {P : Option NB} {hs : Int32} {n0 n1 : Blk} {ζ : Row} {η : Nat → Blk} (S : St N G z H P hs n0 n1 ζ η) (hN : N + 600000 ≤ 536870912) (n2 : Blk) (δ : Row) (χ : Blk) {Y : Nat} (hY : Y < 2 ^ 31) (hj : Y % 16 = 5) : ∃ r n0' ζ' η' δ', Don N G z H P hs n0 n1 ζ η (EA G Y) r n0' ζ' η' ∧ Ok l g yL_acts cL_acts 3 (some .int) 8 200 [.ref (b 11 0), .int (nI Y)] (wHS g b hs n0 n1 n2 ζ η δ χ) (some (.int r)) (wHS g b hs n0' n1 n2 ζ' η' δ' χ) := by
  obtain ⟨r, n0', ζ', η', f, D⟩ := k_audit S hN n2 δ χ (nI ((Y / 16) % 9))
  refine ⟨r, n0', ζ', η', δ, D.weak (fun r G' ⟨k, k1, k2, k3, k4, k5⟩ => by
    have hm := S.wf.2.1.1
    have e : Y / 16 % 9 = k := (nI_eq (by omega) (by omega)).mp k2
    subst e
    exact ⟨fun _ => ⟨k1, k3, k4, k5⟩, fun h => by omega⟩), ?_⟩
  refine Ok.of RL (by decide) rfl (Nat.le_of_ble_eq_true rfl) (fun x hl hg X F => ?_)
  subst hg; subst hl
  show V x (wHS x.g b hs n0 n1 n2 ζ η δ χ) [(0, .ref (b 11 0)), (1, .int (nI Y))] [] 0
  refine v_iload_n X (pc := 0) dL_acts_0 rfl 1 rfl ?_
  refine v_bipush X (pc := 1) (v := nI 16) dL_acts_1 (by decide) ?_
  refine v_idiv X (pc := 3) dL_acts_3 (by decide) ?_
  refine v_top (b := nI (Y / 16)) (pk_div (by omega) (by decide) (by decide)) ?_
  refine v_istore_n X (pc := 4) (L2 := [(2, .int (nI (Y / 16))), (0, .ref (b 11 0)), (1, .int (nI Y))]) dL_acts_4 rfl (by decide) rfl ?_
  refine v_iload_n X (pc := 5) dL_acts_5 rfl 2 rfl ?_
  refine v_bipush X (pc := 6) (v := nI 16) dL_acts_6 (by decide) ?_
  refine v_irem X (pc := 8) dL_acts_8 (by decide) ?_
  refine v_top (b := nI (Y % 16)) (pk_rem (by omega) (by decide) (by decide)) ?_
  have h16 : (nI (Y % 16)).toInt = 5 := by rw [nI_toInt (by omega)]; omega
  refine v_tswIn X (pc := 9) (tgt := 134) (off := 125) dL_acts_9 (by omega) (by omega) (by rw [h16]; rfl) (by decide) ?_
  refine v_aload_n X (pc := 134) dL_acts_134 rfl 1 rfl ?_
  refine v_iload_n X (pc := 135) dL_acts_135 rfl 0 rfl ?_
  refine v_bipush X (pc := 136) (v := nI 9) dL_acts_136 (by decide) ?_
  refine v_irem X (pc := 138) dL_acts_138 (by decide) ?_
  refine v_top (b := nI ((Y / 16) % 9)) (pk_rem (by omega) (by decide) (by decide)) ?_
  refine v_callV X (pc := 139) (st1 := [.int r]) (w' := wHS x.g b hs n0' n1 n2 ζ' η' δ χ) [.int (nI ((Y / 16) % 9))] [] (c_X5_audit x.l x.g b hs n0 n1 n2 ζ η δ χ (nI ((Y / 16) % 9)) f) rfl rfl cw_X5_audit q_359 q_360 q_361 ⟨by decide, by decide⟩ 0 5 rfl rfl rfl (Fr.all rfl) rfl (Nat.le_of_ble_eq_true rfl) dL_acts_139 ?_
  exact v_iret X (pc := 142) F dL_acts_142
set_option maxHeartbeats 4000000 in
set_option maxRecDepth 100000 in
theorem acts_repair (l : Launch) (g : Gl) (b : Nat → Nat → Nat) {N : Nat} {G : NB} {z : Nat} {H : Nat → NB} {P : Option NB} {hs : Int32} {n0 n1 : Blk} {ζ : Row} {η : Nat → Blk} (S : St N G z H P hs n0 n1 ζ η) (hN : N + 600000 ≤ 536870912) (n2 : Blk) (δ : Row) (χ : Blk) {Y : Nat} (hY : Y < 2 ^ 31) (hj : Y % 16 = 6) : ∃ r n0' ζ' η' δ', Don N G z H P hs n0 n1 ζ η (EA G Y) r n0' ζ' η' ∧ Ok l g yL_acts cL_acts 3 (some .int) 8 200 [.ref (b 11 0), .int (nI Y)] (wHS g b hs n0 n1 n2 ζ η δ χ) (some (.int r)) (wHS g b hs n0' n1 n2 ζ' η' δ' χ) := by
  obtain ⟨r, n0', ζ', η', f, D⟩ := k_repair S hN n2 δ χ (nI ((Y / 16) % 9))
  refine ⟨r, n0', ζ', η', δ, D.weak (fun _ _ _ => ⟨fun h => by omega, fun h => by omega⟩), ?_⟩
  refine Ok.of RL (by decide) rfl (Nat.le_of_ble_eq_true rfl) (fun x hl hg X F => ?_)
  subst hg; subst hl
  show V x (wHS x.g b hs n0 n1 n2 ζ η δ χ) [(0, .ref (b 11 0)), (1, .int (nI Y))] [] 0
  refine v_iload_n X (pc := 0) dL_acts_0 rfl 1 rfl ?_
  refine v_bipush X (pc := 1) (v := nI 16) dL_acts_1 (by decide) ?_
  refine v_idiv X (pc := 3) dL_acts_3 (by decide) ?_
  refine v_top (b := nI (Y / 16)) (pk_div (by omega) (by decide) (by decide)) ?_
  refine v_istore_n X (pc := 4) (L2 := [(2, .int (nI (Y / 16))), (0, .ref (b 11 0)), (1, .int (nI Y))]) dL_acts_4 rfl (by decide) rfl ?_
  refine v_iload_n X (pc := 5) dL_acts_5 rfl 2 rfl ?_
  refine v_bipush X (pc := 6) (v := nI 16) dL_acts_6 (by decide) ?_
  refine v_irem X (pc := 8) dL_acts_8 (by decide) ?_
  refine v_top (b := nI (Y % 16)) (pk_rem (by omega) (by decide) (by decide)) ?_
  have h16 : (nI (Y % 16)).toInt = 6 := by rw [nI_toInt (by omega)]; omega
  refine v_tswIn X (pc := 9) (tgt := 143) (off := 134) dL_acts_9 (by omega) (by omega) (by rw [h16]; rfl) (by decide) ?_
  refine v_aload_n X (pc := 143) dL_acts_143 rfl 1 rfl ?_
  refine v_iload_n X (pc := 144) dL_acts_144 rfl 0 rfl ?_
  refine v_bipush X (pc := 145) (v := nI 9) dL_acts_145 (by decide) ?_
  refine v_irem X (pc := 147) dL_acts_147 (by decide) ?_
  refine v_top (b := nI ((Y / 16) % 9)) (pk_rem (by omega) (by decide) (by decide)) ?_
  refine v_callV X (pc := 148) (st1 := [.int r]) (w' := wHS x.g b hs n0' n1 n2 ζ' η' δ χ) [.int (nI ((Y / 16) % 9))] [] (c_X5_repair x.l x.g b hs n0 n1 n2 ζ η δ χ (nI ((Y / 16) % 9)) f) rfl rfl cw_X5_repair q_374 q_375 q_376 ⟨by decide, by decide⟩ 0 5 rfl rfl rfl (Fr.all rfl) rfl (Nat.le_of_ble_eq_true rfl) dL_acts_148 ?_
  exact v_iret X (pc := 151) F dL_acts_151
set_option maxHeartbeats 4000000 in
set_option maxRecDepth 100000 in
theorem acts_hours (l : Launch) (g : Gl) (b : Nat → Nat → Nat) {N : Nat} {G : NB} {z : Nat} {H : Nat → NB} {P : Option NB} {hs : Int32} {n0 n1 : Blk} {ζ : Row} {η : Nat → Blk} (S : St N G z H P hs n0 n1 ζ η) (hN : N + 600000 ≤ 536870912) (n2 : Blk) (δ : Row) (χ : Blk) {Y : Nat} (hY : Y < 2 ^ 31) (hj : Y % 16 = 7) : ∃ r n0' ζ' η' δ', Don N G z H P hs n0 n1 ζ η (EA G Y) r n0' ζ' η' ∧ Ok l g yL_acts cL_acts 3 (some .int) 8 200 [.ref (b 11 0), .int (nI Y)] (wHS g b hs n0 n1 n2 ζ η δ χ) (some (.int r)) (wHS g b hs n0' n1 n2 ζ' η' δ' χ) := by
  obtain ⟨r, n0', ζ', η', f, D⟩ := k_hours S hN n2 δ χ (nI ((Y / 16) % 9))
  refine ⟨r, n0', ζ', η', δ, D.weak (fun _ _ _ => ⟨fun h => by omega, fun h => by omega⟩), ?_⟩
  refine Ok.of RL (by decide) rfl (Nat.le_of_ble_eq_true rfl) (fun x hl hg X F => ?_)
  subst hg; subst hl
  show V x (wHS x.g b hs n0 n1 n2 ζ η δ χ) [(0, .ref (b 11 0)), (1, .int (nI Y))] [] 0
  refine v_iload_n X (pc := 0) dL_acts_0 rfl 1 rfl ?_
  refine v_bipush X (pc := 1) (v := nI 16) dL_acts_1 (by decide) ?_
  refine v_idiv X (pc := 3) dL_acts_3 (by decide) ?_
  refine v_top (b := nI (Y / 16)) (pk_div (by omega) (by decide) (by decide)) ?_
  refine v_istore_n X (pc := 4) (L2 := [(2, .int (nI (Y / 16))), (0, .ref (b 11 0)), (1, .int (nI Y))]) dL_acts_4 rfl (by decide) rfl ?_
  refine v_iload_n X (pc := 5) dL_acts_5 rfl 2 rfl ?_
  refine v_bipush X (pc := 6) (v := nI 16) dL_acts_6 (by decide) ?_
  refine v_irem X (pc := 8) dL_acts_8 (by decide) ?_
  refine v_top (b := nI (Y % 16)) (pk_rem (by omega) (by decide) (by decide)) ?_
  have h16 : (nI (Y % 16)).toInt = 7 := by rw [nI_toInt (by omega)]; omega
  refine v_tswIn X (pc := 9) (tgt := 152) (off := 143) dL_acts_9 (by omega) (by omega) (by rw [h16]; rfl) (by decide) ?_
  refine v_aload_n X (pc := 152) dL_acts_152 rfl 1 rfl ?_
  refine v_iload_n X (pc := 153) dL_acts_153 rfl 0 rfl ?_
  refine v_bipush X (pc := 154) (v := nI 9) dL_acts_154 (by decide) ?_
  refine v_irem X (pc := 156) dL_acts_156 (by decide) ?_
  refine v_top (b := nI ((Y / 16) % 9)) (pk_rem (by omega) (by decide) (by decide)) ?_
  refine v_callV X (pc := 157) (st1 := [.int r]) (w' := wHS x.g b hs n0' n1 n2 ζ' η' δ χ) [.int (nI ((Y / 16) % 9))] [] (c_X5_hours x.l x.g b hs n0 n1 n2 ζ η δ χ (nI ((Y / 16) % 9)) f) rfl rfl cw_X5_hours q_386 q_387 q_388 ⟨by decide, by decide⟩ 0 5 rfl rfl rfl (Fr.all rfl) rfl (Nat.le_of_ble_eq_true rfl) dL_acts_157 ?_
  exact v_iret X (pc := 160) F dL_acts_160
set_option maxHeartbeats 4000000 in
set_option maxRecDepth 100000 in
theorem acts_restore (l : Launch) (g : Gl) (b : Nat → Nat → Nat) {N : Nat} {G : NB} {z : Nat} {H : Nat → NB} {P : Option NB} {hs : Int32} {n0 n1 : Blk} {ζ : Row} {η : Nat → Blk} (S : St N G z H P hs n0 n1 ζ η) (hN : N + 600000 ≤ 536870912) (n2 : Blk) (δ : Row) (χ : Blk) {Y : Nat} (hY : Y < 2 ^ 31) (hj : Y % 16 = 8) (hz : Y / 16 % 3 = 0) : ∃ r n0' ζ' η' δ', Don N G z H P hs n0 n1 ζ η (EA G Y) r n0' ζ' η' ∧ Ok l g yL_acts cL_acts 3 (some .int) 8 200 [.ref (b 11 0), .int (nI Y)] (wHS g b hs n0 n1 n2 ζ η δ χ) (some (.int r)) (wHS g b hs n0' n1 n2 ζ' η' δ' χ) := by
  obtain ⟨r, n0', ζ', η', f, D⟩ := k_restore S hN n2 δ χ 
  refine ⟨r, n0', ζ', η', δ, D.weak (fun _ _ _ => ⟨fun h => by omega, fun h => by omega⟩), ?_⟩
  refine Ok.of RL (by decide) rfl (Nat.le_of_ble_eq_true rfl) (fun x hl hg X F => ?_)
  subst hg; subst hl
  show V x (wHS x.g b hs n0 n1 n2 ζ η δ χ) [(0, .ref (b 11 0)), (1, .int (nI Y))] [] 0
  refine v_iload_n X (pc := 0) dL_acts_0 rfl 1 rfl ?_
  refine v_bipush X (pc := 1) (v := nI 16) dL_acts_1 (by decide) ?_
  refine v_idiv X (pc := 3) dL_acts_3 (by decide) ?_
  refine v_top (b := nI (Y / 16)) (pk_div (by omega) (by decide) (by decide)) ?_
  refine v_istore_n X (pc := 4) (L2 := [(2, .int (nI (Y / 16))), (0, .ref (b 11 0)), (1, .int (nI Y))]) dL_acts_4 rfl (by decide) rfl ?_
  refine v_iload_n X (pc := 5) dL_acts_5 rfl 2 rfl ?_
  refine v_bipush X (pc := 6) (v := nI 16) dL_acts_6 (by decide) ?_
  refine v_irem X (pc := 8) dL_acts_8 (by decide) ?_
  refine v_top (b := nI (Y % 16)) (pk_rem (by omega) (by decide) (by decide)) ?_
  have h16 : (nI (Y % 16)).toInt = 8 := by rw [nI_toInt (by omega)]; omega
  refine v_tswIn X (pc := 9) (tgt := 161) (off := 152) dL_acts_9 (by omega) (by omega) (by rw [h16]; rfl) (by decide) ?_
  refine v_iload_n X (pc := 161) dL_acts_161 rfl 0 rfl ?_
  refine v_iconst X (pc := 162) (v := nI 3) dL_acts_162 (by decide) ?_
  refine v_irem X (pc := 163) dL_acts_163 (by decide) ?_
  refine v_top (b := nI ((Y / 16) % 3)) (pk_rem (by omega) (by decide) (by decide)) ?_
  refine v_ifne X (pc := 164) (tgt := 174) dL_acts_164 (by decide) (fun cc => False.elim (cc (by rw [hz]; rfl))) (fun _ => ?_)
  refine v_aload_n X (pc := 167) dL_acts_167 rfl 1 rfl ?_
  refine v_callV X (pc := 168) (st1 := [.int r]) (w' := wHS x.g b hs n0' n1 n2 ζ' η' δ χ) [] [] (c_X5_restore x.l x.g b hs n0 n1 n2 ζ η δ χ  f) rfl rfl cw_X5_restore q_223 q_224 q_225 ⟨by decide, by decide⟩ 0 5 rfl rfl rfl (Fr.all rfl) rfl (Nat.le_of_ble_eq_true rfl) dL_acts_168 ?_
  refine v_goto X (pc := 171) (tgt := 182) dL_acts_171 (by decide) ?_
  exact v_iret X (pc := 182) F dL_acts_182
set_option maxHeartbeats 4000000 in
set_option maxRecDepth 100000 in
theorem acts_close (l : Launch) (g : Gl) (b : Nat → Nat → Nat) {N : Nat} {G : NB} {z : Nat} {H : Nat → NB} {P : Option NB} {hs : Int32} {n0 n1 : Blk} {ζ : Row} {η : Nat → Blk} (S : St N G z H P hs n0 n1 ζ η) (hN : N + 600000 ≤ 536870912) (n2 : Blk) (δ : Row) (χ : Blk) {Y : Nat} (hY : Y < 2 ^ 31) (hj : Y % 16 = 8) (hz : ¬ Y / 16 % 3 = 0) : ∃ r n0' ζ' η' δ', Don N G z H P hs n0 n1 ζ η (EA G Y) r n0' ζ' η' ∧ Ok l g yL_acts cL_acts 3 (some .int) 8 200 [.ref (b 11 0), .int (nI Y)] (wHS g b hs n0 n1 n2 ζ η δ χ) (some (.int r)) (wHS g b hs n0' n1 n2 ζ' η' δ' χ) := by
  obtain ⟨r, n0', ζ', η', δ', f, D⟩ := k_close S hN n2 δ χ (nI ((Y / 16) % 7))
  refine ⟨r, n0', ζ', η', δ', D.weak (fun _ _ _ => ⟨fun h => by omega, fun h => by omega⟩), ?_⟩
  refine Ok.of RL (by decide) rfl (Nat.le_of_ble_eq_true rfl) (fun x hl hg X F => ?_)
  subst hg; subst hl
  show V x (wHS x.g b hs n0 n1 n2 ζ η δ χ) [(0, .ref (b 11 0)), (1, .int (nI Y))] [] 0
  refine v_iload_n X (pc := 0) dL_acts_0 rfl 1 rfl ?_
  refine v_bipush X (pc := 1) (v := nI 16) dL_acts_1 (by decide) ?_
  refine v_idiv X (pc := 3) dL_acts_3 (by decide) ?_
  refine v_top (b := nI (Y / 16)) (pk_div (by omega) (by decide) (by decide)) ?_
  refine v_istore_n X (pc := 4) (L2 := [(2, .int (nI (Y / 16))), (0, .ref (b 11 0)), (1, .int (nI Y))]) dL_acts_4 rfl (by decide) rfl ?_
  refine v_iload_n X (pc := 5) dL_acts_5 rfl 2 rfl ?_
  refine v_bipush X (pc := 6) (v := nI 16) dL_acts_6 (by decide) ?_
  refine v_irem X (pc := 8) dL_acts_8 (by decide) ?_
  refine v_top (b := nI (Y % 16)) (pk_rem (by omega) (by decide) (by decide)) ?_
  have h16 : (nI (Y % 16)).toInt = 8 := by rw [nI_toInt (by omega)]; omega
  refine v_tswIn X (pc := 9) (tgt := 161) (off := 152) dL_acts_9 (by omega) (by omega) (by rw [h16]; rfl) (by decide) ?_
  refine v_iload_n X (pc := 161) dL_acts_161 rfl 0 rfl ?_
  refine v_iconst X (pc := 162) (v := nI 3) dL_acts_162 (by decide) ?_
  refine v_irem X (pc := 163) dL_acts_163 (by decide) ?_
  refine v_top (b := nI ((Y / 16) % 3)) (pk_rem (by omega) (by decide) (by decide)) ?_
  refine v_ifne X (pc := 164) (tgt := 174) dL_acts_164 (by decide) (fun _ => ?_) (fun cc => False.elim (hz ((nI_eq (by omega) (by decide)).mp (cc.trans e0))))
  refine v_aload_n X (pc := 174) dL_acts_174 rfl 1 rfl ?_
  refine v_iload_n X (pc := 175) dL_acts_175 rfl 0 rfl ?_
  refine v_bipush X (pc := 176) (v := nI 7) dL_acts_176 (by decide) ?_
  refine v_irem X (pc := 178) dL_acts_178 (by decide) ?_
  refine v_top (b := nI ((Y / 16) % 7)) (pk_rem (by omega) (by decide) (by decide)) ?_
  refine v_callV X (pc := 179) (st1 := [.int r]) (w' := wHS x.g b hs n0' n1 n2 ζ' η' δ' χ) [.int (nI ((Y / 16) % 7))] [] (c_X5_close x.l x.g b hs n0 n1 n2 ζ η δ χ (nI ((Y / 16) % 7)) f) rfl rfl cw_X5_close q_409 q_410 q_411 ⟨by decide, by decide⟩ 0 5 rfl rfl rfl (Fr.all rfl) rfl (Nat.le_of_ble_eq_true rfl) dL_acts_179 ?_
  exact v_iret X (pc := 182) F dL_acts_182
set_option maxHeartbeats 4000000 in
set_option maxRecDepth 100000 in
theorem acts_set (l : Launch) (g : Gl) (b : Nat → Nat → Nat) {N : Nat} {G : NB} {z : Nat} {H : Nat → NB} {P : Option NB} {hs : Int32} {n0 n1 : Blk} {ζ : Row} {η : Nat → Blk} (S : St N G z H P hs n0 n1 ζ η) (hN : N + 600000 ≤ 536870912) (n2 : Blk) (δ : Row) (χ : Blk) {Y : Nat} (hY : Y < 2 ^ 31) (hj : Y % 16 = 9) : ∃ r n0' ζ' η' δ', Don N G z H P hs n0 n1 ζ η (EA G Y) r n0' ζ' η' ∧ Ok l g yL_acts cL_acts 3 (some .int) 8 200 [.ref (b 11 0), .int (nI Y)] (wHS g b hs n0 n1 n2 ζ η δ χ) (some (.int r)) (wHS g b hs n0' n1 n2 ζ' η' δ' χ) := by
  obtain ⟨r, n0', ζ', η', f, D⟩ := k_set S hN n2 δ χ (nI ((Y / 16) % 3)) (nI (((Y / 16) / 3) % 50))
  refine ⟨r, n0', ζ', η', δ, D.weak (fun _ _ _ => ⟨fun h => by omega, fun h => by omega⟩), ?_⟩
  refine Ok.of RL (by decide) rfl (Nat.le_of_ble_eq_true rfl) (fun x hl hg X F => ?_)
  subst hg; subst hl
  show V x (wHS x.g b hs n0 n1 n2 ζ η δ χ) [(0, .ref (b 11 0)), (1, .int (nI Y))] [] 0
  refine v_iload_n X (pc := 0) dL_acts_0 rfl 1 rfl ?_
  refine v_bipush X (pc := 1) (v := nI 16) dL_acts_1 (by decide) ?_
  refine v_idiv X (pc := 3) dL_acts_3 (by decide) ?_
  refine v_top (b := nI (Y / 16)) (pk_div (by omega) (by decide) (by decide)) ?_
  refine v_istore_n X (pc := 4) (L2 := [(2, .int (nI (Y / 16))), (0, .ref (b 11 0)), (1, .int (nI Y))]) dL_acts_4 rfl (by decide) rfl ?_
  refine v_iload_n X (pc := 5) dL_acts_5 rfl 2 rfl ?_
  refine v_bipush X (pc := 6) (v := nI 16) dL_acts_6 (by decide) ?_
  refine v_irem X (pc := 8) dL_acts_8 (by decide) ?_
  refine v_top (b := nI (Y % 16)) (pk_rem (by omega) (by decide) (by decide)) ?_
  have h16 : (nI (Y % 16)).toInt = 9 := by rw [nI_toInt (by omega)]; omega
  refine v_tswIn X (pc := 9) (tgt := 183) (off := 174) dL_acts_9 (by omega) (by omega) (by rw [h16]; rfl) (by decide) ?_
  refine v_aload_n X (pc := 183) dL_acts_183 rfl 1 rfl ?_
  refine v_iload_n X (pc := 184) dL_acts_184 rfl 0 rfl ?_
  refine v_iconst X (pc := 185) (v := nI 3) dL_acts_185 (by decide) ?_
  refine v_irem X (pc := 186) dL_acts_186 (by decide) ?_
  refine v_top (b := nI ((Y / 16) % 3)) (pk_rem (by omega) (by decide) (by decide)) ?_
  refine v_iload_n X (pc := 187) dL_acts_187 rfl 0 rfl ?_
  refine v_iconst X (pc := 188) (v := nI 3) dL_acts_188 (by decide) ?_
  refine v_idiv X (pc := 189) dL_acts_189 (by decide) ?_
  refine v_top (b := nI ((Y / 16) / 3)) (pk_div (by omega) (by decide) (by decide)) ?_
  refine v_bipush X (pc := 190) (v := nI 50) dL_acts_190 (by decide) ?_
  refine v_irem X (pc := 192) dL_acts_192 (by decide) ?_
  refine v_top (b := nI (((Y / 16) / 3) % 50)) (pk_rem (by omega) (by decide) (by decide)) ?_
  refine v_callV X (pc := 193) (st1 := [.int r]) (w' := wHS x.g b hs n0' n1 n2 ζ' η' δ χ) [.int (nI ((Y / 16) % 3)), .int (nI (((Y / 16) / 3) % 50))] [] (c_X5_set x.l x.g b hs n0 n1 n2 ζ η δ χ (nI ((Y / 16) % 3)) (nI (((Y / 16) / 3) % 50)) f) rfl rfl cw_X5_set q_482 q_483 q_484 ⟨by decide, by decide⟩ 0 5 rfl rfl rfl (Fr.all rfl) rfl (Nat.le_of_ble_eq_true rfl) dL_acts_193 ?_
  exact v_iret X (pc := 196) F dL_acts_196
set_option maxHeartbeats 4000000 in
set_option maxRecDepth 100000 in
theorem acts_passT (l : Launch) (g : Gl) (b : Nat → Nat → Nat) {N : Nat} {G : NB} {z : Nat} {H : Nat → NB} {P : Option NB} {hs : Int32} {n0 n1 : Blk} {ζ : Row} {η : Nat → Blk} (S : St N G z H P hs n0 n1 ζ η) (hN : N + 600000 ≤ 536870912) (n2 : Blk) (δ : Row) (χ : Blk) {Y : Nat} (hY : Y < 2 ^ 31) (hj : 10 ≤ Y % 16) (hz : Y / 16 / 9 % 2 = 0) : ∃ r n0' ζ' η' δ', Don N G z H P hs n0 n1 ζ η (EA G Y) r n0' ζ' η' ∧ Ok l g yL_acts cL_acts 3 (some .int) 8 200 [.ref (b 11 0), .int (nI Y)] (wHS g b hs n0 n1 n2 ζ η δ χ) (some (.int r)) (wHS g b hs n0' n1 n2 ζ' η' δ' χ) := by
  obtain ⟨r, n0', ζ', η', f, D⟩ := k_pass S hN n2 δ χ (nI ((Y / 16) % 9)) true (nI (((Y / 16) / 18) % 40))
  have D' : Don N G z H P hs n0 n1 ζ η (EA G Y) r n0' ζ' η' := by
    rcases D with d | ⟨d1, G', ⟨k, k1, k2, k3⟩, d3⟩
    · exact .inl d
    · have hm := d3.wf.2.1.1
      have e : Y / 16 % 9 = k := (nI_eq (by omega) (by omega)).mp k2
      subst e
      exact .inr ⟨d1, G', ⟨fun h => by omega, fun _ => ⟨k1, k3⟩⟩, d3⟩
  refine ⟨r, n0', ζ', η', δ, D', ?_⟩
  refine Ok.of RL (by decide) rfl (Nat.le_of_ble_eq_true rfl) (fun x hl hg X F => ?_)
  subst hg; subst hl
  show V x (wHS x.g b hs n0 n1 n2 ζ η δ χ) [(0, .ref (b 11 0)), (1, .int (nI Y))] [] 0
  refine v_iload_n X (pc := 0) dL_acts_0 rfl 1 rfl ?_
  refine v_bipush X (pc := 1) (v := nI 16) dL_acts_1 (by decide) ?_
  refine v_idiv X (pc := 3) dL_acts_3 (by decide) ?_
  refine v_top (b := nI (Y / 16)) (pk_div (by omega) (by decide) (by decide)) ?_
  refine v_istore_n X (pc := 4) (L2 := [(2, .int (nI (Y / 16))), (0, .ref (b 11 0)), (1, .int (nI Y))]) dL_acts_4 rfl (by decide) rfl ?_
  refine v_iload_n X (pc := 5) dL_acts_5 rfl 2 rfl ?_
  refine v_bipush X (pc := 6) (v := nI 16) dL_acts_6 (by decide) ?_
  refine v_irem X (pc := 8) dL_acts_8 (by decide) ?_
  refine v_top (b := nI (Y % 16)) (pk_rem (by omega) (by decide) (by decide)) ?_
  have h16 : 9 < (nI (Y % 16)).toInt := by rw [nI_toInt (by omega)]; omega
  refine v_tswOut X (pc := 9) (tgt := 197) dL_acts_9 (.inr h16) (by decide) ?_
  refine v_aload_n X (pc := 197) dL_acts_197 rfl 1 rfl ?_
  refine v_iload_n X (pc := 198) dL_acts_198 rfl 0 rfl ?_
  refine v_bipush X (pc := 199) (v := nI 9) dL_acts_199 (by decide) ?_
  refine v_irem X (pc := 201) dL_acts_201 (by decide) ?_
  refine v_top (b := nI ((Y / 16) % 9)) (pk_rem (by omega) (by decide) (by decide)) ?_
  refine v_iload_n X (pc := 202) dL_acts_202 rfl 0 rfl ?_
  refine v_bipush X (pc := 203) (v := nI 9) dL_acts_203 (by decide) ?_
  refine v_idiv X (pc := 205) dL_acts_205 (by decide) ?_
  refine v_top (b := nI ((Y / 16) / 9)) (pk_div (by omega) (by decide) (by decide)) ?_
  refine v_iconst X (pc := 206) (v := nI 2) dL_acts_206 (by decide) ?_
  refine v_irem X (pc := 207) dL_acts_207 (by decide) ?_
  refine v_top (b := nI (((Y / 16) / 9) % 2)) (pk_rem (by omega) (by decide) (by decide)) ?_
  refine v_ifne X (pc := 208) (tgt := 215) dL_acts_208 (by decide) (fun cc => False.elim (cc (by rw [hz]; rfl))) (fun _ => ?_)
  refine v_iconst X (pc := 211) (v := nI 1) dL_acts_211 (by decide) ?_
  refine v_goto X (pc := 212) (tgt := 216) dL_acts_212 (by decide) ?_
  refine v_top (b := b2i true) (by decide) ?_
  refine v_iload_n X (pc := 216) dL_acts_216 rfl 0 rfl ?_
  refine v_bipush X (pc := 217) (v := nI 18) dL_acts_217 (by decide) ?_
  refine v_idiv X (pc := 219) dL_acts_219 (by decide) ?_
  refine v_top (b := nI ((Y / 16) / 18)) (pk_div (by omega) (by decide) (by decide)) ?_
  refine v_bipush X (pc := 220) (v := nI 40) dL_acts_220 (by decide) ?_
  refine v_irem X (pc := 222) dL_acts_222 (by decide) ?_
  refine v_top (b := nI (((Y / 16) / 18) % 40)) (pk_rem (by omega) (by decide) (by decide)) ?_
  refine v_callV X (pc := 223) (st1 := [.int r]) (w' := wHS x.g b hs n0' n1 n2 ζ' η' δ χ) [.int (nI ((Y / 16) % 9)), .int (b2i true), .int (nI (((Y / 16) / 18) % 40))] [] (c_X5_pass x.l x.g b hs n0 n1 n2 ζ η δ χ (nI ((Y / 16) % 9)) true (nI (((Y / 16) / 18) % 40)) f) rfl rfl cw_X5_pass q_486 q_487 q_488 ⟨by decide, by decide⟩ 0 5 rfl rfl rfl (Fr.all rfl) rfl (Nat.le_of_ble_eq_true rfl) dL_acts_223 ?_
  exact v_iret X (pc := 226) F dL_acts_226
set_option maxHeartbeats 4000000 in
set_option maxRecDepth 100000 in
theorem acts_passF (l : Launch) (g : Gl) (b : Nat → Nat → Nat) {N : Nat} {G : NB} {z : Nat} {H : Nat → NB} {P : Option NB} {hs : Int32} {n0 n1 : Blk} {ζ : Row} {η : Nat → Blk} (S : St N G z H P hs n0 n1 ζ η) (hN : N + 600000 ≤ 536870912) (n2 : Blk) (δ : Row) (χ : Blk) {Y : Nat} (hY : Y < 2 ^ 31) (hj : 10 ≤ Y % 16) (hz : ¬ Y / 16 / 9 % 2 = 0) : ∃ r n0' ζ' η' δ', Don N G z H P hs n0 n1 ζ η (EA G Y) r n0' ζ' η' ∧ Ok l g yL_acts cL_acts 3 (some .int) 8 200 [.ref (b 11 0), .int (nI Y)] (wHS g b hs n0 n1 n2 ζ η δ χ) (some (.int r)) (wHS g b hs n0' n1 n2 ζ' η' δ' χ) := by
  obtain ⟨r, n0', ζ', η', f, D⟩ := k_pass S hN n2 δ χ (nI ((Y / 16) % 9)) false (nI (((Y / 16) / 18) % 40))
  have D' : Don N G z H P hs n0 n1 ζ η (EA G Y) r n0' ζ' η' := by
    rcases D with d | ⟨d1, G', ⟨k, k1, k2, k3⟩, d3⟩
    · exact .inl d
    · have hm := d3.wf.2.1.1
      have e : Y / 16 % 9 = k := (nI_eq (by omega) (by omega)).mp k2
      subst e
      exact .inr ⟨d1, G', ⟨fun h => by omega, fun _ => ⟨k1, k3⟩⟩, d3⟩
  refine ⟨r, n0', ζ', η', δ, D', ?_⟩
  refine Ok.of RL (by decide) rfl (Nat.le_of_ble_eq_true rfl) (fun x hl hg X F => ?_)
  subst hg; subst hl
  show V x (wHS x.g b hs n0 n1 n2 ζ η δ χ) [(0, .ref (b 11 0)), (1, .int (nI Y))] [] 0
  refine v_iload_n X (pc := 0) dL_acts_0 rfl 1 rfl ?_
  refine v_bipush X (pc := 1) (v := nI 16) dL_acts_1 (by decide) ?_
  refine v_idiv X (pc := 3) dL_acts_3 (by decide) ?_
  refine v_top (b := nI (Y / 16)) (pk_div (by omega) (by decide) (by decide)) ?_
  refine v_istore_n X (pc := 4) (L2 := [(2, .int (nI (Y / 16))), (0, .ref (b 11 0)), (1, .int (nI Y))]) dL_acts_4 rfl (by decide) rfl ?_
  refine v_iload_n X (pc := 5) dL_acts_5 rfl 2 rfl ?_
  refine v_bipush X (pc := 6) (v := nI 16) dL_acts_6 (by decide) ?_
  refine v_irem X (pc := 8) dL_acts_8 (by decide) ?_
  refine v_top (b := nI (Y % 16)) (pk_rem (by omega) (by decide) (by decide)) ?_
  have h16 : 9 < (nI (Y % 16)).toInt := by rw [nI_toInt (by omega)]; omega
  refine v_tswOut X (pc := 9) (tgt := 197) dL_acts_9 (.inr h16) (by decide) ?_
  refine v_aload_n X (pc := 197) dL_acts_197 rfl 1 rfl ?_
  refine v_iload_n X (pc := 198) dL_acts_198 rfl 0 rfl ?_
  refine v_bipush X (pc := 199) (v := nI 9) dL_acts_199 (by decide) ?_
  refine v_irem X (pc := 201) dL_acts_201 (by decide) ?_
  refine v_top (b := nI ((Y / 16) % 9)) (pk_rem (by omega) (by decide) (by decide)) ?_
  refine v_iload_n X (pc := 202) dL_acts_202 rfl 0 rfl ?_
  refine v_bipush X (pc := 203) (v := nI 9) dL_acts_203 (by decide) ?_
  refine v_idiv X (pc := 205) dL_acts_205 (by decide) ?_
  refine v_top (b := nI ((Y / 16) / 9)) (pk_div (by omega) (by decide) (by decide)) ?_
  refine v_iconst X (pc := 206) (v := nI 2) dL_acts_206 (by decide) ?_
  refine v_irem X (pc := 207) dL_acts_207 (by decide) ?_
  refine v_top (b := nI (((Y / 16) / 9) % 2)) (pk_rem (by omega) (by decide) (by decide)) ?_
  refine v_ifne X (pc := 208) (tgt := 215) dL_acts_208 (by decide) (fun _ => ?_) (fun cc => False.elim (hz ((nI_eq (by omega) (by decide)).mp (cc.trans e0))))
  refine v_iconst X (pc := 215) (v := nI 0) dL_acts_215 (by decide) ?_
  refine v_top (b := b2i false) (by decide) ?_
  refine v_iload_n X (pc := 216) dL_acts_216 rfl 0 rfl ?_
  refine v_bipush X (pc := 217) (v := nI 18) dL_acts_217 (by decide) ?_
  refine v_idiv X (pc := 219) dL_acts_219 (by decide) ?_
  refine v_top (b := nI ((Y / 16) / 18)) (pk_div (by omega) (by decide) (by decide)) ?_
  refine v_bipush X (pc := 220) (v := nI 40) dL_acts_220 (by decide) ?_
  refine v_irem X (pc := 222) dL_acts_222 (by decide) ?_
  refine v_top (b := nI (((Y / 16) / 18) % 40)) (pk_rem (by omega) (by decide) (by decide)) ?_
  refine v_callV X (pc := 223) (st1 := [.int r]) (w' := wHS x.g b hs n0' n1 n2 ζ' η' δ χ) [.int (nI ((Y / 16) % 9)), .int (b2i false), .int (nI (((Y / 16) / 18) % 40))] [] (c_X5_pass x.l x.g b hs n0 n1 n2 ζ η δ χ (nI ((Y / 16) % 9)) false (nI (((Y / 16) / 18) % 40)) f) rfl rfl cw_X5_pass q_486 q_487 q_488 ⟨by decide, by decide⟩ 0 5 rfl rfl rfl (Fr.all rfl) rfl (Nat.le_of_ble_eq_true rfl) dL_acts_223 ?_
  exact v_iret X (pc := 226) F dL_acts_226
theorem c_L_acts (l : Launch) (g : Gl) (b : Nat → Nat → Nat) {N : Nat} {G : NB} {z : Nat} {H : Nat → NB} {P : Option NB} {hs : Int32} {n0 n1 : Blk} {ζ : Row} {η : Nat → Blk} (S : St N G z H P hs n0 n1 ζ η) (hN : N + 600000 ≤ 536870912) (n2 : Blk) (δ : Row) (χ : Blk) {Y : Nat} (hY : Y < 2 ^ 31) : ∃ r n0' ζ' η' δ', Don N G z H P hs n0 n1 ζ η (EA G Y) r n0' ζ' η' ∧ Ok l g yL_acts cL_acts 3 (some .int) 8 200 [.ref (b 11 0), .int (nI Y)] (wHS g b hs n0 n1 n2 ζ η δ χ) (some (.int r)) (wHS g b hs n0' n1 n2 ζ' η' δ' χ) := by
  have hh : Y % 16 = 0 ∨ Y % 16 = 1 ∨ Y % 16 = 2 ∨ (Y % 16 = 3 ∨ Y % 16 = 4) ∨ Y % 16 = 5 ∨ Y % 16 = 6 ∨ Y % 16 = 7 ∨ Y % 16 = 8 ∨ Y % 16 = 9 ∨ 10 ≤ Y % 16 := by omega
  rcases hh with h | h | h | h | h | h | h | h | h | h
  · exact acts_stile l g b S hN n2 δ χ hY h
  · exact acts_open l g b S hN n2 δ χ hY h
  · exact acts_room l g b S hN n2 δ χ hY h
  · exact acts_slip l g b S hN n2 δ χ hY h
  · exact acts_audit l g b S hN n2 δ χ hY h
  · exact acts_repair l g b S hN n2 δ χ hY h
  · exact acts_hours l g b S hN n2 δ χ hY h
  · by_cases hz : Y / 16 % 3 = 0
    · exact acts_restore l g b S hN n2 δ χ hY h hz
    · exact acts_close l g b S hN n2 δ χ hY h hz
  · exact acts_set l g b S hN n2 δ χ hY h
  · by_cases hz : Y / 16 / 9 % 2 = 0
    · exact acts_passT l g b S hN n2 δ χ hY h hz
    · exact acts_passF l g b S hN n2 δ χ hY h hz
theorem cw_L_acts : CwB yL_acts cL_acts 3 (some .int) 2 := ⟨q_315, q_13, by decide, by decide, by decide +kernel⟩
