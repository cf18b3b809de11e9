/-! the law's body, turn by turn -/
theorem push_top {z : Nat} (hz : z ≤ 5) (H : Nat → NB) (G : NB) : pushH z H G (min (z + 1) 5 - 1) = G := by
  by_cases c : z = 5
  · subst c
    rw [pushH_5]; rfl
  · rw [pushH_lt (by omega), if_pos (by omega)]
theorem so_gap {G : NB} {k : Nat} (h : k < G 0 0) : soI G k 4 = nI (gap G k) := by
  unfold soI; rw [if_pos h]; rfl
set_option maxHeartbeats 8000000 in
set_option maxRecDepth 100000 in
theorem law_done {x : Ctx} (X : Cx x RL cL_law 11 11 442) {bs i N z Y : Nat} {G G' : NB} {H : Nat → NB} {P : Option NB} {hs a r : Int32} {n0 n1 n2 : Blk} {ζ : Row} {η : Nat → Blk} {δ : Row} {χ : Blk} (b : Nat → Nat → Nat) (hY : Y < 2 ^ 31) (hz : z ≤ 5) (S : St (N + 500000) G' (min (z + 1) 5) (pushH z H G) P hs n0 n1 ζ η) (hE : EA G Y r G') (ha : Y % 16 = 5 → a = soI G (Y / 16 % 9) 4)
    (kk : ∀ (hs : Int32) (n0 n1 n2 : Blk) (ζ : Row) (η : Nat → Blk) (δ : Row) (G : NB) (z : Nat) (H : Nat → NB) (P : Option NB), St (N + 500000) G z H P hs n0 n1 ζ η → V x (wHS x.g b hs n0 n1 n2 ζ η δ χ) [(0, .ref bs), (1, .ref (b 11 0)), (2, .int (nI 1)), (3, .int (nI i))] [] 359) : V x (wHS x.g b hs n0 n1 n2 ζ η δ χ) [(0, .ref bs), (1, .ref (b 11 0)), (2, .int (nI 1)), (3, .int (nI i)), (4, .int (nI Y)), (5, .int (NUM G)), (6, .int (nI z)), (7, .int a), (8, .int r)] [] 168 := by
  have hR : 8 ≤ 11 ∧ 200 ≤ 442 := ⟨by decide, by decide⟩
  have J281 : ∀ (n2 : Blk) (δ : Row), V x (wHS x.g b hs n0 n1 n2 ζ η δ χ) [(0, .ref bs), (1, .ref (b 11 0)), (2, .int (nI 1)), (3, .int (nI i)), (4, .int (nI Y)), (5, .int (NUM G)), (6, .int (nI z)), (7, .int a), (8, .int r)] [] 281 := by
    intro n2 δ
    refine v_iload_n X (pc := 281) dL_law_281 rfl 2 rfl ?_
    refine v_ifeq X (pc := 282) (tgt := 359) dL_law_282 (by decide) (fun cc => absurd cc (by decide)) (fun _ => ?_)
    refine v_iload X (pc := 285) dL_law_285 4 rfl ?_
    refine v_bipush X (pc := 287) (v := nI 7) dL_law_287 (by decide) ?_
    refine v_idiv X (pc := 289) dL_law_289 (by decide) ?_
    refine v_top (b := nI (Y / 7)) (pk_div (by omega) (by decide) (by decide)) ?_
    refine v_iconst X (pc := 290) (v := nI 5) dL_law_290 (by decide) ?_
    refine v_irem X (pc := 291) dL_law_291 (by decide) ?_
    refine v_top (b := nI ((Y / 7) % 5)) (pk_rem (by omega) (by decide) (by decide)) ?_
    by_cases h7 : Y / 7 % 5 = 0
    · skip
      refine v_ifne X (pc := 292) (tgt := 359) dL_law_292 (by decide) (fun cc => False.elim (cc (by rw [h7]; rfl))) (fun _ => ?_)
      refine v_aload_n X (pc := 295) dL_law_295 rfl 1 rfl ?_
      refine v_callSP X (pc := 296) [.ref (b 11 0)] [] (c_L_numbers x.l x.g b S _ _ _) (fun w1 hw => by obtain ⟨q, rfl⟩ := hw; exact Fr.all rfl) rfl cw_L_numbers q_502 q_503 ⟨by decide, by decide⟩ rfl (Nat.le_of_ble_eq_true rfl) dL_law_296 (fun w1 hw => ?_)
      obtain ⟨δ, rfl⟩ := hw
      show V x (wHS x.g b hs n0 n1 n2 ζ η δ χ) [(0, .ref bs), (1, .ref (b 11 0)), (2, .int (nI 1)), (3, .int (nI i)), (4, .int (nI Y)), (5, .int (NUM G)), (6, .int (nI z)), (7, .int a), (8, .int r)] [.int (NUM G')] 299
      refine v_istore X (pc := 299) (L2 := [(9, .int (NUM G')), (0, .ref bs), (1, .ref (b 11 0)), (2, .int (nI 1)), (3, .int (nI i)), (4, .int (nI Y)), (5, .int (NUM G)), (6, .int (nI z)), (7, .int a), (8, .int r)]) dL_law_299 (by decide) rfl ?_
      refine v_aload_n X (pc := 301) dL_law_301 rfl 2 rfl ?_
      obtain ⟨hs', n1', f1, S2⟩ := k_save S n2 δ χ
      refine v_callV X (pc := 302) (st1 := [.int (nI (ppl G'))]) (w' := (wHS x.g b hs' n0 n1' n2 ζ η δ χ)) [] [] (c_X5_save x.l x.g b hs n0 n1 n2 ζ η δ χ f1) rfl rfl cw_X5_save q_208 q_209 q_210 ⟨by decide, by decide⟩ 0 5 rfl rfl rfl (Fr.all rfl) rfl (Nat.le_of_ble_eq_true rfl) dL_law_302 ?_
      refine v_istore X (pc := 305) (L2 := [(10, .int (nI (ppl G'))), (9, .int (NUM G')), (0, .ref bs), (1, .ref (b 11 0)), (2, .int (nI 1)), (3, .int (nI i)), (4, .int (nI Y)), (5, .int (NUM G)), (6, .int (nI z)), (7, .int a), (8, .int r)]) dL_law_305 (by decide) rfl ?_
      refine v_aload_n X (pc := 307) dL_law_307 rfl 3 rfl ?_
      obtain ⟨n0', ζ', f2, S3⟩ := k_undo S2 (by omega) n2 δ χ
      rw [push_top hz] at S3
      refine v_callV X (pc := 308) (st1 := [.int (nI (min (z + 1) 5 - 1))]) (w' := (wHS x.g b hs' n0' n1' n2 ζ' η δ χ)) [] [] (c_X5_undo x.l x.g b hs' n0 n1' n2 ζ η δ χ f2) rfl rfl cw_X5_undo q_183 q_184 q_185 ⟨by decide, by decide⟩ 0 5 rfl rfl rfl (Fr.all rfl) rfl (Nat.le_of_ble_eq_true rfl) dL_law_308 ?_
      refine v_iload X (pc := 311) dL_law_311 8 rfl ?_
      refine v_iconst X (pc := 313) (v := nI 5) dL_law_313 (by decide) ?_
      have J323 : V x (wHS x.g b hs' n0' n1' n2 ζ' η δ χ) [(10, .int (nI (ppl G'))), (9, .int (NUM G')), (0, .ref bs), (1, .ref (b 11 0)), (2, .int (nI 1)), (3, .int (nI i)), (4, .int (nI Y)), (5, .int (NUM G)), (6, .int (nI z)), (7, .int a), (8, .int r)] [.int (nI (min (z + 1) 5 - 1)), .int (nI (min (z + 1) 5 - 1))] 323 := by
        refine v_icmpne X (pc := 323) (tgt := 357) dL_law_323 (by decide) (fun cc => False.elim (cc rfl)) (fun _ => ?_)
        refine v_aload_n X (pc := 326) dL_law_326 rfl 3 rfl ?_
        refine v_callSP X (pc := 327) [.ref (b 11 0)] [] (c_L_numbers x.l x.g b S3 _ _ _) (fun w1 hw => by obtain ⟨q, rfl⟩ := hw; exact Fr.all rfl) rfl cw_L_numbers q_502 q_503 ⟨by decide, by decide⟩ rfl (Nat.le_of_ble_eq_true rfl) dL_law_327 (fun w1 hw => ?_)
        obtain ⟨δ, rfl⟩ := hw
        show V x (wHS x.g b hs' n0' n1' n2 ζ' η δ χ) [(10, .int (nI (ppl G'))), (9, .int (NUM G')), (0, .ref bs), (1, .ref (b 11 0)), (2, .int (nI 1)), (3, .int (nI i)), (4, .int (nI Y)), (5, .int (NUM G)), (6, .int (nI z)), (7, .int a), (8, .int r)] [.int (NUM G)] 330
        refine v_iload X (pc := 330) dL_law_330 7 rfl ?_
        refine v_icmpne X (pc := 332) (tgt := 357) dL_law_332 (by decide) (fun cc => False.elim (cc rfl)) (fun _ => ?_)
        refine v_aload_n X (pc := 335) dL_law_335 rfl 3 rfl ?_
        obtain ⟨n0'', ζ'', η'', f3, S4⟩ := k_restoreS S3 n2 δ χ
        refine v_callV X (pc := 336) (st1 := [.int (nI (ppl G'))]) (w' := (wHS x.g b hs' n0'' n1' n2 ζ'' η'' δ χ)) [] [] (c_X5_restore x.l x.g b hs' n0' n1' n2 ζ' η δ χ f3) rfl rfl cw_X5_restore q_223 q_224 q_225 ⟨by decide, by decide⟩ 0 5 rfl rfl rfl (Fr.all rfl) rfl (Nat.le_of_ble_eq_true rfl) dL_law_336 ?_
        refine v_iload X (pc := 339) dL_law_339 0 rfl ?_
        refine v_icmpne X (pc := 341) (tgt := 357) dL_law_341 (by decide) (fun cc => False.elim (cc rfl)) (fun _ => ?_)
        refine v_aload_n X (pc := 344) dL_law_344 rfl 3 rfl ?_
        refine v_callSP X (pc := 345) [.ref (b 11 0)] [] (c_L_numbers x.l x.g b S4 _ _ _) (fun w1 hw => by obtain ⟨q, rfl⟩ := hw; exact Fr.all rfl) rfl cw_L_numbers q_502 q_503 ⟨by decide, by decide⟩ rfl (Nat.le_of_ble_eq_true rfl) dL_law_345 (fun w1 hw => ?_)
        obtain ⟨δ, rfl⟩ := hw
        show V x (wHS x.g b hs' n0'' n1' n2 ζ'' η'' δ χ) [(10, .int (nI (ppl G'))), (9, .int (NUM G')), (0, .ref bs), (1, .ref (b 11 0)), (2, .int (nI 1)), (3, .int (nI i)), (4, .int (nI Y)), (5, .int (NUM G)), (6, .int (nI z)), (7, .int a), (8, .int r)] [.int (NUM G')] 348
        refine v_iload X (pc := 348) dL_law_348 1 rfl ?_
        refine v_icmpne X (pc := 350) (tgt := 357) dL_law_350 (by decide) (fun cc => False.elim (cc rfl)) (fun _ => ?_)
        refine v_iconst X (pc := 353) (v := nI 1) dL_law_353 (by decide) ?_
        refine v_goto X (pc := 354) (tgt := 358) dL_law_354 (by decide) ?_
        refine v_istore_n X (pc := 358) (L2 := [(2, .int (nI 1)), (10, .int (nI (ppl G'))), (9, .int (NUM G')), (0, .ref bs), (1, .ref (b 11 0)), (3, .int (nI i)), (4, .int (nI Y)), (5, .int (NUM G)), (6, .int (nI z)), (7, .int a), (8, .int r)]) dL_law_358 rfl (by decide) rfl ?_
        refine v_sub (L2 := [(0, .ref bs), (1, .ref (b 11 0)), (2, .int (nI 1)), (3, .int (nI i))]) [3, 4, 0, 5] rfl ?_
        exact kk _ _ _ _ _ _ _ _ _ _ _ S4
      by_cases z5 : z = 5
      · skip
        refine v_icmpne X (pc := 314) (tgt := 321) dL_law_314 (by decide) (fun cc => False.elim (cc (by rw [z5]))) (fun _ => ?_)
        refine v_iconst X (pc := 317) (v := nI 4) dL_law_317 (by decide) ?_
        refine v_goto X (pc := 318) (tgt := 323) dL_law_318 (by decide) ?_
        refine v_top (b := nI (min (z + 1) 5 - 1)) (by congr 1; omega) ?_
        exact J323
      · skip
        refine v_icmpne X (pc := 314) (tgt := 321) dL_law_314 (by decide) (fun _ => ?_) (fun cc => False.elim (z5 ((nI_eq (by omega) (by decide)).mp cc)))
        refine v_iload X (pc := 321) dL_law_321 8 rfl ?_
        refine v_top (b := nI (min (z + 1) 5 - 1)) (by congr 1; omega) ?_
        exact J323
    · skip
      refine v_ifne X (pc := 292) (tgt := 359) dL_law_292 (by decide) (fun _ => ?_) (fun cc => False.elim (h7 ((nI_eq (by omega) (by decide)).mp (cc.trans e0))))
      refine v_sub (L2 := [(0, .ref bs), (1, .ref (b 11 0)), (2, .int (nI 1)), (3, .int (nI i))]) [0, 1, 2, 3] rfl ?_
      exact kk _ _ _ _ _ _ _ _ _ _ _ S
  have J275 : ∀ (n2 : Blk) (δ : Row), V x (wHS x.g b hs n0 n1 n2 ζ η δ χ) [(0, .ref bs), (1, .ref (b 11 0)), (2, .int (nI 1)), (3, .int (nI i)), (4, .int (nI Y)), (5, .int (NUM G)), (6, .int (nI z)), (7, .int a), (8, .int r)] [] 275 := by
    intro n2 δ
    refine v_iconst X (pc := 275) (v := nI 1) dL_law_275 (by decide) ?_
    refine v_goto X (pc := 276) (tgt := 280) dL_law_276 (by decide) ?_
    refine v_istore_n X (pc := 280) (L2 := [(2, .int (nI 1)), (0, .ref bs), (1, .ref (b 11 0)), (3, .int (nI i)), (4, .int (nI Y)), (5, .int (NUM G)), (6, .int (nI z)), (7, .int a), (8, .int r)]) dL_law_280 rfl (by decide) rfl ?_
    refine v_sub (L2 := [(0, .ref bs), (1, .ref (b 11 0)), (2, .int (nI 1)), (3, .int (nI i)), (4, .int (nI Y)), (5, .int (NUM G)), (6, .int (nI z)), (7, .int a), (8, .int r)]) [1, 2, 0, 3, 4, 5, 6, 7, 8] rfl ?_
    exact J281 n2 δ
  have J237 : ∀ (n2 : Blk) (δ : Row), V x (wHS x.g b hs n0 n1 n2 ζ η δ χ) [(0, .ref bs), (1, .ref (b 11 0)), (2, .int (nI 1)), (3, .int (nI i)), (4, .int (nI Y)), (5, .int (NUM G)), (6, .int (nI z)), (7, .int a), (8, .int r)] [] 237 := by
    intro n2 δ
    refine v_iconst X (pc := 237) (v := nI 1) dL_law_237 (by decide) ?_
    refine v_goto X (pc := 238) (tgt := 242) dL_law_238 (by decide) ?_
    refine v_istore_n X (pc := 242) (L2 := [(2, .int (nI 1)), (0, .ref bs), (1, .ref (b 11 0)), (3, .int (nI i)), (4, .int (nI Y)), (5, .int (NUM G)), (6, .int (nI z)), (7, .int a), (8, .int r)]) dL_law_242 rfl (by decide) rfl ?_
    refine v_iload_n X (pc := 243) dL_law_243 rfl 0 rfl ?_
    refine v_ifeq X (pc := 244) (tgt := 279) dL_law_244 (by decide) (fun cc => absurd cc (by decide)) (fun _ => ?_)
    refine v_iload X (pc := 247) dL_law_247 4 rfl ?_
    refine v_bipush X (pc := 249) (v := nI 16) dL_law_249 (by decide) ?_
    refine v_irem X (pc := 251) dL_law_251 (by decide) ?_
    refine v_top (b := nI (Y % 16)) (pk_rem (by omega) (by decide) (by decide)) ?_
    refine v_bipush X (pc := 252) (v := nI 10) dL_law_252 (by decide) ?_
    by_cases h10 : 10 ≤ Y % 16
    · skip
      obtain ⟨k1, k2⟩ := hE.2 h10
      refine v_icmplt X (pc := 254) (tgt := 275) dL_law_254 (by decide) (fun cc => absurd cc (nI_nlt h10 (by omega))) (fun _ => ?_)
      refine v_aload_n X (pc := 257) dL_law_257 rfl 2 rfl ?_
      refine v_iload X (pc := 258) dL_law_258 4 rfl ?_
      refine v_bipush X (pc := 260) (v := nI 16) dL_law_260 (by decide) ?_
      refine v_idiv X (pc := 262) dL_law_262 (by decide) ?_
      refine v_top (b := nI (Y / 16)) (pk_div (by omega) (by decide) (by decide)) ?_
      refine v_bipush X (pc := 263) (v := nI 9) dL_law_263 (by decide) ?_
      refine v_irem X (pc := 265) dL_law_265 (by decide) ?_
      refine v_top (b := nI ((Y / 16) % 9)) (pk_rem (by omega) (by decide) (by decide)) ?_
      refine v_iconst X (pc := 266) (v := nI 4) dL_law_266 (by decide) ?_
      refine r_stileOf X hR S (by omega) (by decide) (Nat.le_of_ble_eq_true rfl) dL_law_267 ?_
      refine v_iload X (pc := 270) dL_law_270 8 rfl ?_
      refine v_icmpne X (pc := 272) (tgt := 279) dL_law_272 (by decide) (fun cc => False.elim (cc (by rw [so_gap k1, k2]))) (fun _ => ?_)
      refine v_sub (L2 := [(0, .ref bs), (1, .ref (b 11 0)), (2, .int (nI 1)), (3, .int (nI i)), (4, .int (nI Y)), (5, .int (NUM G)), (6, .int (nI z)), (7, .int a), (8, .int r)]) [1, 2, 0, 3, 4, 5, 6, 7, 8] rfl ?_
      exact J275 n2 δ
    · skip
      refine v_icmplt X (pc := 254) (tgt := 275) dL_law_254 (by decide) (fun _ => ?_) (fun cc => False.elim (cc (nI_lt (by omega) (by decide))))
      refine v_sub (L2 := [(0, .ref bs), (1, .ref (b 11 0)), (2, .int (nI 1)), (3, .int (nI i)), (4, .int (nI Y)), (5, .int (NUM G)), (6, .int (nI z)), (7, .int a), (8, .int r)]) [1, 2, 0, 3, 4, 5, 6, 7, 8] rfl ?_
      exact J275 n2 δ
  have J205 : ∀ (n2 : Blk) (δ : Row), V x (wHS x.g b hs n0 n1 n2 ζ η δ χ) [(0, .ref bs), (1, .ref (b 11 0)), (2, .int (nI 1)), (3, .int (nI i)), (4, .int (nI Y)), (5, .int (NUM G)), (6, .int (nI z)), (7, .int a), (8, .int r)] [] 205 := by
    intro n2 δ
    refine v_iload X (pc := 205) dL_law_205 4 rfl ?_
    refine v_bipush X (pc := 207) (v := nI 16) dL_law_207 (by decide) ?_
    refine v_irem X (pc := 209) dL_law_209 (by decide) ?_
    refine v_top (b := nI (Y % 16)) (pk_rem (by omega) (by decide) (by decide)) ?_
    refine v_iconst X (pc := 210) (v := nI 5) dL_law_210 (by decide) ?_
    by_cases h5 : Y % 16 = 5
    · skip
      obtain ⟨k1, k2, k3, k4⟩ := hE.1 h5
      refine v_icmpne X (pc := 211) (tgt := 237) dL_law_211 (by decide) (fun cc => False.elim (cc (by rw [h5]))) (fun _ => ?_)
      refine v_iload X (pc := 214) dL_law_214 8 rfl ?_
      refine v_iload X (pc := 216) dL_law_216 7 rfl ?_
      refine v_icmpne X (pc := 218) (tgt := 241) dL_law_218 (by decide) (fun cc => False.elim (cc (by rw [ha h5, k2, so_gap k1]))) (fun _ => ?_)
      refine v_aload_n X (pc := 221) dL_law_221 rfl 1 rfl ?_
      refine v_iload X (pc := 222) dL_law_222 4 rfl ?_
      refine v_bipush X (pc := 224) (v := nI 16) dL_law_224 (by decide) ?_
      refine v_idiv X (pc := 226) dL_law_226 (by decide) ?_
      refine v_top (b := nI (Y / 16)) (pk_div (by omega) (by decide) (by decide)) ?_
      refine v_bipush X (pc := 227) (v := nI 9) dL_law_227 (by decide) ?_
      refine v_irem X (pc := 229) dL_law_229 (by decide) ?_
      refine v_top (b := nI ((Y / 16) % 9)) (pk_rem (by omega) (by decide) (by decide)) ?_
      refine v_iconst X (pc := 230) (v := nI 4) dL_law_230 (by decide) ?_
      refine r_stileOf X hR S (by omega) (by decide) (Nat.le_of_ble_eq_true rfl) dL_law_231 ?_
      refine v_ifne X (pc := 234) (tgt := 241) dL_law_234 (by decide) (fun cc => False.elim (cc (by rw [so_gap (by rw [k3]; exact k1), k4]; rfl))) (fun _ => ?_)
      refine v_sub (L2 := [(0, .ref bs), (1, .ref (b 11 0)), (2, .int (nI 1)), (3, .int (nI i)), (4, .int (nI Y)), (5, .int (NUM G)), (6, .int (nI z)), (7, .int a), (8, .int r)]) [0, 1, 2, 3, 4, 5, 6, 7, 8] rfl ?_
      exact J237 n2 δ
    · skip
      refine v_icmpne X (pc := 211) (tgt := 237) dL_law_211 (by decide) (fun _ => ?_) (fun cc => False.elim (h5 ((nI_eq (by omega) (by decide)).mp cc)))
      refine v_sub (L2 := [(0, .ref bs), (1, .ref (b 11 0)), (2, .int (nI 1)), (3, .int (nI i)), (4, .int (nI Y)), (5, .int (NUM G)), (6, .int (nI z)), (7, .int a), (8, .int r)]) [0, 1, 2, 3, 4, 5, 6, 7, 8] rfl ?_
      exact J237 n2 δ
  have J188 : V x (wHS x.g b hs n0 n1 n2 ζ η δ χ) [(0, .ref bs), (1, .ref (b 11 0)), (2, .int (nI 1)), (3, .int (nI i)), (4, .int (nI Y)), (5, .int (NUM G)), (6, .int (nI z)), (7, .int a), (8, .int r)] [.int (nI (min (z + 1) 5)), .int (nI (min (z + 1) 5))] 188 := by
    refine v_icmpne X (pc := 188) (tgt := 241) dL_law_188 (by decide) (fun cc => False.elim (cc rfl)) (fun _ => ?_)
    refine v_iload X (pc := 191) dL_law_191 4 rfl ?_
    refine v_iconst X (pc := 193) (v := nI 4) dL_law_193 (by decide) ?_
    refine v_irem X (pc := 194) dL_law_194 (by decide) ?_
    refine v_top (b := nI (Y % 4)) (pk_rem (by omega) (by decide) (by decide)) ?_
    by_cases h4 : Y % 4 = 0
    · skip
      refine v_ifgt X (pc := 195) (tgt := 205) dL_law_195 (by decide) (fun cc => False.elim ((by rw [h4] at cc; exact absurd cc (by decide)))) (fun _ => ?_)
      refine v_aload_n X (pc := 198) dL_law_198 rfl 1 rfl ?_
      refine v_callSP X (pc := 199) [.ref (b 11 0)] [] (c_L_hangs x.l x.g b S _ _ _) (fun w1 hw => by obtain ⟨q1, q2, rfl⟩ := hw; exact Fr.all rfl) rfl cw_L_hangs q_524 q_525 ⟨by decide, by decide⟩ rfl (Nat.le_of_ble_eq_true rfl) dL_law_199 (fun w1 hw => ?_)
      obtain ⟨n2, δ, rfl⟩ := hw
      show V x (wHS x.g b hs n0 n1 n2 ζ η δ χ) [(0, .ref bs), (1, .ref (b 11 0)), (2, .int (nI 1)), (3, .int (nI i)), (4, .int (nI Y)), (5, .int (NUM G)), (6, .int (nI z)), (7, .int a), (8, .int r)] [.int (nI 1)] 202
      refine v_ifeq X (pc := 202) (tgt := 241) dL_law_202 (by decide) (fun cc => absurd cc (by decide)) (fun _ => ?_)
      refine v_sub (L2 := [(0, .ref bs), (1, .ref (b 11 0)), (2, .int (nI 1)), (3, .int (nI i)), (4, .int (nI Y)), (5, .int (NUM G)), (6, .int (nI z)), (7, .int a), (8, .int r)]) [0, 1, 2, 3, 4, 5, 6, 7, 8] rfl ?_
      exact J205 n2 δ
    · skip
      refine v_ifgt X (pc := 195) (tgt := 205) dL_law_195 (by decide) (fun _ => ?_) (fun cc => False.elim (cc (by rw [e0]; exact nI_lt (by omega) (by omega))))
      refine v_sub (L2 := [(0, .ref bs), (1, .ref (b 11 0)), (2, .int (nI 1)), (3, .int (nI i)), (4, .int (nI Y)), (5, .int (NUM G)), (6, .int (nI z)), (7, .int a), (8, .int r)]) [0, 1, 2, 3, 4, 5, 6, 7, 8] rfl ?_
      exact J205 n2 δ
  refine v_aload_n X (pc := 168) dL_law_168 rfl 1 rfl ?_
  refine v_bipush X (pc := 169) (v := nI 11) dL_law_169 (by decide) ?_
  refine r_states X hR S  (Nat.le_of_ble_eq_true rfl) dL_law_171 ?_
  refine v_iload X (pc := 174) dL_law_174 6 rfl ?_
  refine v_iconst X (pc := 176) (v := nI 5) dL_law_176 (by decide) ?_
  by_cases z5 : z = 5
  · skip
    refine v_icmpne X (pc := 177) (tgt := 184) dL_law_177 (by decide) (fun cc => False.elim (cc (by rw [z5]))) (fun _ => ?_)
    refine v_iconst X (pc := 180) (v := nI 5) dL_law_180 (by decide) ?_
    refine v_goto X (pc := 181) (tgt := 188) dL_law_181 (by decide) ?_
    refine v_top (b := nI (min (z + 1) 5)) (by congr 1; omega) ?_
    exact J188
  · skip
    refine v_icmpne X (pc := 177) (tgt := 184) dL_law_177 (by decide) (fun _ => ?_) (fun cc => False.elim (z5 ((nI_eq (by omega) (by decide)).mp cc)))
    refine v_iload X (pc := 184) dL_law_184 6 rfl ?_
    refine v_iconst X (pc := 186) (v := nI 1) dL_law_186 (by decide) ?_
    refine v_iadd X (pc := 187) dL_law_187 ?_
    refine v_top (b := nI (min (z + 1) 5)) (by rw [nI_add]; congr 1; omega) ?_
    exact J188
set_option maxHeartbeats 8000000 in
set_option maxRecDepth 100000 in
theorem law_turn {x : Ctx} (X : Cx x RL cL_law 11 11 442) {bs Ln i : Nat} {xs : Nat → Int32} (hX : va_X bs Ln xs x.s x.s.heap) (hbl : bs < x.s.heap.size) (hbA : ¬ x.A bs) (hL : Ln < 2 ^ 31) (b : Nat → Nat → Nat) (hi : i < 44) {N : Nat} {G : NB} {z : Nat} {H : Nat → NB} {P : Option NB} {hs : Int32} {n0 n1 : Blk} {ζ : Row} {η : Nat → Blk} {n2 : Blk} {δ : Row} {χ : Blk} (S : St N G z H P hs n0 n1 ζ η) (hN : N + 600000 ≤ 536870912)
    (kk : ∀ (hs : Int32) (n0 n1 n2 : Blk) (ζ : Row) (η : Nat → Blk) (δ : Row) (G : NB) (z : Nat) (H : Nat → NB) (P : Option NB), St (N + 500000) G z H P hs n0 n1 ζ η → V x (wHS x.g b hs n0 n1 n2 ζ η δ χ) [(0, .ref bs), (1, .ref (b 11 0)), (2, .int (nI 1)), (3, .int (nI i))] [] 359) : V x (wHS x.g b hs n0 n1 n2 ζ η δ χ) [(0, .ref bs), (1, .ref (b 11 0)), (2, .int (nI 1)), (3, .int (nI i))] [] 54 := by
  have hR : 8 ≤ 11 ∧ 200 ≤ 442 := ⟨by decide, by decide⟩
  have hz := S.hi.1
  have J124 : ∀ (Y : Nat) (a : Int32) (δ : Row), Y < 2 ^ 31 → (Y % 16 = 5 → a = soI G (Y / 16 % 9) 4) → V x (wHS x.g b hs n0 n1 n2 ζ η δ χ) [(0, .ref bs), (1, .ref (b 11 0)), (2, .int (nI 1)), (3, .int (nI i)), (4, .int (nI Y)), (5, .int (NUM G)), (6, .int (nI z))] [.int a] 124 := by
    intro Y a δ hY ha
    refine v_istore X (pc := 124) (L2 := [(7, .int a), (0, .ref bs), (1, .ref (b 11 0)), (2, .int (nI 1)), (3, .int (nI i)), (4, .int (nI Y)), (5, .int (NUM G)), (6, .int (nI z))]) dL_law_124 (by decide) rfl ?_
    refine v_aload_n X (pc := 126) dL_law_126 rfl 2 rfl ?_
    refine v_iload X (pc := 127) dL_law_127 5 rfl ?_
    obtain ⟨r, n0', ζ', η', δ', hD, ok⟩ := c_L_acts x.l x.g b S hN n2 δ χ hY
    refine v_callS X (pc := 129) (st1 := [.int r]) (w' := (wHS x.g b hs n0' n1 n2 ζ' η' δ' χ)) [.ref (b 11 0), .int (nI Y)] [] ok rfl rfl cw_L_acts q_313 q_314 ⟨by decide, by decide⟩ (Fr.all rfl) rfl (Nat.le_of_ble_eq_true rfl) dL_law_129 ?_
    refine v_istore X (pc := 132) (L2 := [(8, .int r), (7, .int a), (0, .ref bs), (1, .ref (b 11 0)), (2, .int (nI 1)), (3, .int (nI i)), (4, .int (nI Y)), (5, .int (NUM G)), (6, .int (nI z))]) dL_law_132 (by decide) rfl ?_
    refine v_iload X (pc := 134) dL_law_134 0 rfl ?_
    rcases hD with ⟨hr, rfl, rfl, rfl⟩ | ⟨hr, G', hE, S'⟩
    · skip
      refine v_ifge X (pc := 136) (tgt := 168) dL_law_136 (by decide) (fun cc => False.elim (absurd hr (by rw [Int32.lt_iff_toInt_lt]; rw [Int32.le_iff_toInt_le] at cc; omega))) (fun _ => ?_)
      refine v_aload_n X (pc := 139) dL_law_139 rfl 3 rfl ?_
      refine v_callSP X (pc := 140) [.ref (b 11 0)] [] (c_L_numbers x.l x.g b S _ _ _) (fun w1 hw => by obtain ⟨q, rfl⟩ := hw; exact Fr.all rfl) rfl cw_L_numbers q_502 q_503 ⟨by decide, by decide⟩ rfl (Nat.le_of_ble_eq_true rfl) dL_law_140 (fun w1 hw => ?_)
      obtain ⟨δ, rfl⟩ := hw
      show V x (wHS x.g b hs n0' n1 n2 ζ' η' δ χ) [(8, .int r), (7, .int a), (0, .ref bs), (1, .ref (b 11 0)), (2, .int (nI 1)), (3, .int (nI i)), (4, .int (nI Y)), (5, .int (NUM G)), (6, .int (nI z))] [.int (NUM G)] 143
      refine v_iload X (pc := 143) dL_law_143 7 rfl ?_
      refine v_icmpne X (pc := 145) (tgt := 163) dL_law_145 (by decide) (fun cc => False.elim (cc rfl)) (fun _ => ?_)
      refine v_aload_n X (pc := 148) dL_law_148 rfl 3 rfl ?_
      refine v_bipush X (pc := 149) (v := nI 11) dL_law_149 (by decide) ?_
      refine r_states X hR S  (Nat.le_of_ble_eq_true rfl) dL_law_151 ?_
      refine v_iload X (pc := 154) dL_law_154 8 rfl ?_
      refine v_icmpne X (pc := 156) (tgt := 163) dL_law_156 (by decide) (fun cc => False.elim (cc rfl)) (fun _ => ?_)
      refine v_iconst X (pc := 159) (v := nI 1) dL_law_159 (by decide) ?_
      refine v_goto X (pc := 160) (tgt := 164) dL_law_160 (by decide) ?_
      refine v_istore_n X (pc := 164) (L2 := [(2, .int (nI 1)), (8, .int r), (7, .int a), (0, .ref bs), (1, .ref (b 11 0)), (3, .int (nI i)), (4, .int (nI Y)), (5, .int (NUM G)), (6, .int (nI z))]) dL_law_164 rfl (by decide) rfl ?_
      refine v_goto X (pc := 165) (tgt := 359) dL_law_165 (by decide) ?_
      refine v_sub (L2 := [(0, .ref bs), (1, .ref (b 11 0)), (2, .int (nI 1)), (3, .int (nI i))]) [3, 4, 0, 5] rfl ?_
      exact kk _ _ _ _ _ _ _ _ _ _ _ (S.mono (by omega) (by omega))
    · skip
      refine v_ifge X (pc := 136) (tgt := 168) dL_law_136 (by decide) (fun _ => ?_) (fun cc => False.elim (hr (by rw [Int32.lt_iff_toInt_lt]; rw [Int32.le_iff_toInt_le] at cc; omega)))
      refine v_sub (L2 := [(0, .ref bs), (1, .ref (b 11 0)), (2, .int (nI 1)), (3, .int (nI i)), (4, .int (nI Y)), (5, .int (NUM G)), (6, .int (nI z)), (7, .int a), (8, .int r)]) [2, 3, 4, 5, 6, 7, 8, 1, 0] rfl ?_
      exact law_done X b hY hz S' hE ha kk
  have J75 : ∀ v : Int32, V x (wHS x.g b hs n0 n1 n2 ζ η δ χ) [(0, .ref bs), (1, .ref (b 11 0)), (2, .int (nI 1)), (3, .int (nI i))] [.int v] 75 := by
    intro v
    obtain ⟨Y, hY, eY⟩ := pk_andE v (m := 2147483647) 31 (by decide)
    refine v_istore X (pc := 75) (L2 := [(4, .int v), (0, .ref bs), (1, .ref (b 11 0)), (2, .int (nI 1)), (3, .int (nI i))]) dL_law_75 (by decide) rfl ?_
    refine v_iload X (pc := 77) dL_law_77 0 rfl ?_
    refine v_ldc X (pc := 79) (v := 2147483647) q_312 dL_law_79 ?_
    refine v_iand X (pc := 81) dL_law_81 ?_
    refine v_top (b := nI Y) (eY) ?_
    refine v_istore X (pc := 82) (L2 := [(4, .int (nI Y)), (0, .ref bs), (1, .ref (b 11 0)), (2, .int (nI 1)), (3, .int (nI i))]) dL_law_82 (by decide) rfl ?_
    refine v_aload_n X (pc := 84) dL_law_84 rfl 2 rfl ?_
    refine v_callSP X (pc := 85) [.ref (b 11 0)] [] (c_L_numbers x.l x.g b S _ _ _) (fun w1 hw => by obtain ⟨q, rfl⟩ := hw; exact Fr.all rfl) rfl cw_L_numbers q_502 q_503 ⟨by decide, by decide⟩ rfl (Nat.le_of_ble_eq_true rfl) dL_law_85 (fun w1 hw => ?_)
    obtain ⟨δ, rfl⟩ := hw
    show V x (wHS x.g b hs n0 n1 n2 ζ η δ χ) [(4, .int (nI Y)), (0, .ref bs), (1, .ref (b 11 0)), (2, .int (nI 1)), (3, .int (nI i))] [.int (NUM G)] 88
    refine v_istore X (pc := 88) (L2 := [(5, .int (NUM G)), (4, .int (nI Y)), (0, .ref bs), (1, .ref (b 11 0)), (2, .int (nI 1)), (3, .int (nI i))]) dL_law_88 (by decide) rfl ?_
    refine v_aload_n X (pc := 90) dL_law_90 rfl 3 rfl ?_
    refine v_bipush X (pc := 91) (v := nI 11) dL_law_91 (by decide) ?_
    refine r_states X hR S  (Nat.le_of_ble_eq_true rfl) dL_law_93 ?_
    refine v_istore X (pc := 96) (L2 := [(6, .int (nI z)), (5, .int (NUM G)), (4, .int (nI Y)), (0, .ref bs), (1, .ref (b 11 0)), (2, .int (nI 1)), (3, .int (nI i))]) dL_law_96 (by decide) rfl ?_
    refine v_iload X (pc := 98) dL_law_98 2 rfl ?_
    refine v_bipush X (pc := 100) (v := nI 16) dL_law_100 (by decide) ?_
    refine v_irem X (pc := 102) dL_law_102 (by decide) ?_
    refine v_top (b := nI (Y % 16)) (pk_rem (by omega) (by decide) (by decide)) ?_
    refine v_iconst X (pc := 103) (v := nI 5) dL_law_103 (by decide) ?_
    by_cases h5 : Y % 16 = 5
    · skip
      refine v_icmpne X (pc := 104) (tgt := 123) dL_law_104 (by decide) (fun cc => False.elim (cc (by rw [h5]))) (fun _ => ?_)
      refine v_aload_n X (pc := 107) dL_law_107 rfl 4 rfl ?_
      refine v_iload X (pc := 108) dL_law_108 2 rfl ?_
      refine v_bipush X (pc := 110) (v := nI 16) dL_law_110 (by decide) ?_
      refine v_idiv X (pc := 112) dL_law_112 (by decide) ?_
      refine v_top (b := nI (Y / 16)) (pk_div (by omega) (by decide) (by decide)) ?_
      refine v_bipush X (pc := 113) (v := nI 9) dL_law_113 (by decide) ?_
      refine v_irem X (pc := 115) dL_law_115 (by decide) ?_
      refine v_top (b := nI ((Y / 16) % 9)) (pk_rem (by omega) (by decide) (by decide)) ?_
      refine v_iconst X (pc := 116) (v := nI 4) dL_law_116 (by decide) ?_
      refine r_stileOf X hR S (by omega) (by decide) (Nat.le_of_ble_eq_true rfl) dL_law_117 ?_
      refine v_goto X (pc := 120) (tgt := 124) dL_law_120 (by decide) ?_
      refine v_sub (L2 := [(0, .ref bs), (1, .ref (b 11 0)), (2, .int (nI 1)), (3, .int (nI i)), (4, .int (nI Y)), (5, .int (NUM G)), (6, .int (nI z))]) [3, 4, 5, 6, 2, 1, 0] rfl ?_
      exact J124 Y _ δ hY (fun _ => rfl)
    · skip
      refine v_icmpne X (pc := 104) (tgt := 123) dL_law_104 (by decide) (fun _ => ?_) (fun cc => False.elim (h5 ((nI_eq (by omega) (by decide)).mp cc)))
      refine v_iconst X (pc := 123) (v := nI 0) dL_law_123 (by decide) ?_
      refine v_sub (L2 := [(0, .ref bs), (1, .ref (b 11 0)), (2, .int (nI 1)), (3, .int (nI i)), (4, .int (nI Y)), (5, .int (NUM G)), (6, .int (nI z))]) [3, 4, 5, 6, 2, 1, 0] rfl ?_
      exact J124 Y _ δ hY (fun h => absurd h h5)
  refine v_iload_n X (pc := 54) dL_law_54 rfl 3 rfl ?_
  refine v_iconst X (pc := 55) (v := nI 5) dL_law_55 (by decide) ?_
  by_cases h5 : i < 5
  · skip
    refine v_icmpge X (pc := 56) (tgt := 70) dL_law_56 (by decide) (fun cc => absurd cc (nI_ge h5 (by decide))) (fun _ => ?_)
    refine v_bipush X (pc := 59) (v := nI 16) dL_law_59 (by decide) ?_
    refine v_aload_n X (pc := 61) dL_law_61 rfl 0 rfl ?_
    refine v_iload_n X (pc := 62) dL_law_62 rfl 3 rfl ?_
    refine v_callX X (pc := 63) hX hbl hbA (c_L_cell x.l x.g (by omega) hL) cw_L_cell q_308 q_309 ⟨by decide, by decide⟩ (Nat.le_of_ble_eq_true rfl) dL_law_63 ?_
    refine v_imul X (pc := 66) dL_law_66 ?_
    refine v_goto X (pc := 67) (tgt := 75) dL_law_67 (by decide) ?_
    refine v_sub (L2 := [(0, .ref bs), (1, .ref (b 11 0)), (2, .int (nI 1)), (3, .int (nI i))]) [0, 1, 2, 3] rfl ?_
    exact J75 _
  · skip
    refine v_icmpge X (pc := 56) (tgt := 70) dL_law_56 (by decide) (fun _ => ?_) (fun cc => False.elim (cc (nI_le (by omega) (by omega))))
    refine v_aload_n X (pc := 70) dL_law_70 rfl 0 rfl ?_
    refine v_iload_n X (pc := 71) dL_law_71 rfl 3 rfl ?_
    refine v_callX X (pc := 72) hX hbl hbA (c_L_cell x.l x.g (by omega) hL) cw_L_cell q_308 q_309 ⟨by decide, by decide⟩ (Nat.le_of_ble_eq_true rfl) dL_law_72 ?_
    refine v_sub (L2 := [(0, .ref bs), (1, .ref (b 11 0)), (2, .int (nI 1)), (3, .int (nI i))]) [0, 1, 2, 3] rfl ?_
    exact J75 _
def LC (p : Program) (l : Launch) (e : Env) (s : State) (m : MethodId) (bs : Nat) (below : List Frame) (meth : Method) (c : Code) (g : Gl) (d0 : Drawn) : Ctx := ((p, l, e, room_1), (s.setDrawn d0, m, #[Value.ref bs], below), (meth, c, 103, 2224), (g, (fun q => s.heap.size ≤ q), 11, lw_Z below #[Value.ref bs] s))
set_option maxHeartbeats 8000000 in
set_option maxRecDepth 100000 in
theorem law_loop {p : Program} {l : Launch} {e : Env} {s : State} {m : MethodId} {bs Ln : Nat} {below : List Frame} {meth : Method} {c : Code} {g : Gl} {xs : Nat → Int32} {d0 : Drawn} (X : Cx (LC p l e s m bs below meth c g d0) RL cL_law 11 11 442) (hd : s.drawn.sameBut d0 lw_cs) (hX0 : va_X bs Ln xs s s.heap) (hbl : bs < s.heap.size) (hr : meth.sig.returnType = ret) (hlocks : meth.locks = false) (hL : Ln ≤ 260) (b : Nat → Nat → Nat) (χ : Blk) :
    ∀ (k i : Nat) (hs : Int32) (n0 n1 n2 : Blk) (ζ : Row) (η : Nat → Blk) (δ : Row) (G : NB) (z : Nat) (H : Nat → NB) (P : Option NB), i + k = 44 → St (500000 * i) G z H P hs n0 n1 ζ η → V (LC p l e s m bs below meth c g d0) (wHS g b hs n0 n1 n2 ζ η δ χ) [(0, .ref bs), (1, .ref (b 11 0)), (2, .int (nI 1)), (3, .int (nI i))] [] 44 := by
  have hX : va_X bs Ln xs (LC p l e s m bs below meth c g d0).s (LC p l e s m bs below meth c g d0).s.heap := hX0.moved (u := s) (U := s.setDrawn d0) (Vm.Alike.refl s.vm)
  have hbl' : bs < (LC p l e s m bs below meth c g d0).s.heap.size := hbl
  have hbA : ¬ (LC p l e s m bs below meth c g d0).A bs := Nat.not_le.mpr hbl
  intro k
  induction k with
  | zero =>
    intro i hs n0 n1 n2 ζ η δ G z H P hi S
    obtain rfl : i = 44 := by omega
    refine v_iload_n X (pc := 44) dL_law_44 rfl 3 rfl ?_
    refine v_bipush X (pc := 45) (v := nI 44) dL_law_45 (by decide) ?_
    refine v_icmpge X (pc := 47) (tgt := 365) dL_law_47 (by decide) (fun _ => ?_) (fun cc => False.elim (cc (Int32.le_refl _)))
    refine v_iload_n X (pc := 365) dL_law_365 rfl 2 rfl ?_
    refine v_ifeq X (pc := 366) (tgt := 380) dL_law_366 (by decide) (fun cc => absurd cc (by decide)) (fun _ => ?_)
    refine v_aload_n X (pc := 369) dL_law_369 rfl 1 rfl ?_
    refine v_callSP X (pc := 370) [.ref (b 11 0)] [] (c_L_hangs l g b S _ _ _) (fun w1 hw => by obtain ⟨q1, q2, rfl⟩ := hw; exact Fr.all rfl) rfl cw_L_hangs q_524 q_525 ⟨by decide, by decide⟩ rfl (Nat.le_of_ble_eq_true rfl) dL_law_370 (fun w1 hw => ?_)
    obtain ⟨n2, δ, rfl⟩ := hw
    show V (LC p l e s m bs below meth c g d0) (wHS g b hs n0 n1 n2 ζ η δ χ) [(0, .ref bs), (1, .ref (b 11 0)), (2, .int (nI 1)), (3, .int (nI 44))] [.int (nI 1)] 373
    refine v_ifeq X (pc := 373) (tgt := 380) dL_law_373 (by decide) (fun cc => absurd cc (by decide)) (fun _ => ?_)
    refine v_iconst X (pc := 376) (v := 1) dL_law_376 (by decide) ?_
    refine v_goto X (pc := 377) (tgt := 381) dL_law_377 (by decide) ?_
    intro Hh locs ls hP hD hS hl
    refine va_forget (fun q hq => hS.2.2 q hq) ?_
    refine W.widen (k := 600000) (n := 7302250) (Nat.le_of_ble_eq_true rfl) (Nat.le_of_ble_eq_true rfl) ?_
    exact lw_ret hd X.1 X.2.1 hr hlocks dL_law_381
  | succ k ih =>
    intro i hs n0 n1 n2 ζ η δ G z H P hi S
    refine v_iload_n X (pc := 44) dL_law_44 rfl 3 rfl ?_
    refine v_bipush X (pc := 45) (v := nI 44) dL_law_45 (by decide) ?_
    refine v_icmpge X (pc := 47) (tgt := 365) dL_law_47 (by decide) (fun cc => absurd cc (nI_ge (by omega) (by decide))) (fun _ => ?_)
    refine v_iload_n X (pc := 50) dL_law_50 rfl 2 rfl ?_
    refine v_ifeq X (pc := 51) (tgt := 365) dL_law_51 (by decide) (fun cc => absurd cc (by decide)) (fun _ => ?_)
    refine law_turn X hX hbl' hbA (by omega) b (by omega) S (by omega) (fun hs n0 n1 n2 ζ η δ G z H P S' => ?_)
    have e' : 500000 * (i + 1) = 500000 * i + 500000 := by omega
    have S'' : St (500000 * (i + 1)) G z H P hs n0 n1 ζ η := by rw [e']; exact S'
    refine v_iinc X (pc := 359) (v := nI (i + 1)) (L2 := [(3, .int (nI (i + 1))), (0, .ref bs), (1, .ref (b 11 0)), (2, .int (nI 1))]) dL_law_359 3 rfl (by rw [show Int32.ofInt 1 = nI 1 by decide, nI_add]) (by decide) rfl ?_
    refine v_goto X (pc := 362) (tgt := 44) dL_law_362 (by decide) ?_
    refine v_sub (L2 := [(0, .ref bs), (1, .ref (b 11 0)), (2, .int (nI 1)), (3, .int (nI (i + 1)))]) [1, 2, 3, 0] rfl ?_
    exact ih (i + 1) hs n0 n1 n2 ζ η δ G z H P (by omega) S''
