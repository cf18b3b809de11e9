/-! the law: rows -/
theorem Fr.nd : ∀ (n k : Nat), va_nd (List.range' k n) = true := by
  intro n
  induction n with
  | zero => intro k; rfl
  | succ n ih =>
    intro k
    simp only [List.range'_succ, va_nd, Bool.and_eq_true, decide_eq_true_eq]
    exact ⟨by simp [List.mem_range']; omega, ih _⟩
theorem Fr.left {u u' v : va_W} (ha : u'.map Prod.fst = u.map Prod.fst) : Fr (u ++ v) u u' (u' ++ v) := by
  have hl : u'.length = u.length := by simpa using congrArg List.length ha
  refine ⟨List.range' 0 u.length, ?_, Fr.nd _ _, by simp [ha], ha, fun k q hk => ?_⟩
  · apply List.ext_getElem?
    intro i
    by_cases h : i < u.length
    · simp [h, List.getElem?_append_left h]
    · simp [h]
  · by_cases h : k < u.length
    · refine .inl ⟨k, by simp [h], ?_⟩
      rw [List.getElem?_append_left (by omega)] at hk
      exact hk
    · refine .inr ⟨by simp [List.mem_range']; omega, ?_⟩
      rw [List.getElem?_append_right (by omega)] at hk ⊢
      rw [← hl]; exact hk
theorem Fr.right {u v v' : va_W} (ha : v'.map Prod.fst = v.map Prod.fst) : Fr (u ++ v) v v' (u ++ v') := by
  have hl : v'.length = v.length := by simpa using congrArg List.length ha
  refine ⟨List.range' u.length v.length, ?_, Fr.nd _ _, by simp [ha], ha, fun k q hk => ?_⟩
  · apply List.ext_getElem?
    intro i
    by_cases h : i < v.length
    · simp [h, List.getElem?_append_right (Nat.le_add_right u.length i)]
    · simp [h]
  · by_cases h : k < u.length
    · refine .inr ⟨by simp [List.mem_range']; omega, ?_⟩
      rw [List.getElem?_append_left h] at hk ⊢
      exact hk
    · rw [List.getElem?_append_right (by omega)] at hk
      have hk2 := (List.getElem?_eq_some_iff.mp hk).1
      refine .inl ⟨k - u.length, ?_, hk⟩
      rw [List.getElem?_range' (by omega)]
      congr 1; omega
section ROWL
variable {x : Ctx} {own : String} {cc : ByteArray} {nl fr lo : Nat} {w : va_W} {L : List (Nat × Value)} {st : List Value} {pc : Nat}
theorem v_slen (X : Cx x own cc nl fr lo) {b Ln : Nat} {xs : Nat → Int32} (hX : va_X b Ln xs x.s x.s.heap) (hbl : b < x.s.heap.size) (hbA : ¬ x.A b) (d : decode cc pc = .ok (.arraylength, 1)) (kk : V x w L (.int (nI Ln) :: st) (pc + 1)) : V x w L (.ref b :: st) pc := fun H locs ls hP hD hS hl => va_slen X.1 X.2.1 hX hbl hbA hS d (kk H locs ls hP hD hS hl)
theorem v_sld (X : Cx x own cc nl fr lo) {b Ln : Nat} {xs : Nat → Int32} (hX : va_X b Ln xs x.s x.s.heap) (hbl : b < x.s.heap.size) (hbA : ¬ x.A b) {i : Int32} {v : Int32} (hin : vp_in i Ln) (hv : xs i.toNatClampNeg = v) (d : decode cc pc = .ok (.iaload, 1)) (kk : V x w L (.int v :: st) (pc + 1)) : V x w L (.int i :: .ref b :: st) pc := by
  subst hv
  exact fun H locs ls hP hD hS hl => va_sld X.1 X.2.1 hX hbl hbA hS hin d (kk H locs ls hP hD hS hl)
end ROWL
abbrev L0 (bs h a0 i : Nat) : List (Nat × Value) := [(0, .ref bs), (1, .ref h), (2, .ref a0), (3, .int (nI i))]
theorem v_arg {x : Ctx} {w : va_W} {st : List Value} {pc bs h a0 i Ln k : Nat} {xs : Nat → Int32} (X : Cx x RL cL_law 8 10 350) (hX : va_X bs Ln xs x.s x.s.heap) (hbl : bs < x.s.heap.size) (hbA : ¬ x.A bs) (hi : i + k < Ln) (h31 : Ln < 2 ^ 31) {n : Int} (hn : Int32.ofInt n = nI k)
    (d0 : decode cL_law pc = .ok (.aload_n 0, 1)) (d1 : decode cL_law (pc + 1) = .ok (.iload_n 3, 1)) (d2 : decode cL_law (pc + 2) = .ok (.iconst n, 1)) (d3 : decode cL_law (pc + 3) = .ok (.iadd, 1)) (d4 : decode cL_law (pc + 4) = .ok (.iaload, 1)) (kk : V x w (L0 bs h a0 i) (.int (xs (i + k)) :: st) (pc + 5)) : V x w (L0 bs h a0 i) st pc := by
  refine v_aload_n X d0 rfl 0 rfl ?_
  refine v_iload_n X d1 rfl 3 rfl ?_
  refine v_iconst X d2 hn ?_
  refine v_iadd X d3 ?_
  rw [nI_add]
  exact v_sld X hX hbl hbA (v := xs (i + k)) (ib_in (ib_nI hi h31)) (by rw [nI_clamp (by omega)]) d4 kk
theorem v_argB {x : Ctx} {w : va_W} {st : List Value} {pc bs h a0 i Ln k : Nat} {xs : Nat → Int32} (X : Cx x RL cL_law 8 10 350) (hX : va_X bs Ln xs x.s x.s.heap) (hbl : bs < x.s.heap.size) (hbA : ¬ x.A bs) (hi : i + k < Ln) (h31 : Ln < 2 ^ 31) {n : Int} (hn : Int32.ofInt n = nI k)
    (d0 : decode cL_law pc = .ok (.aload_n 0, 1)) (d1 : decode cL_law (pc + 1) = .ok (.iload_n 3, 1)) (d2 : decode cL_law (pc + 2) = .ok (.iconst n, 1)) (d3 : decode cL_law (pc + 3) = .ok (.iadd, 1)) (d4 : decode cL_law (pc + 4) = .ok (.iaload, 1)) (d5 : decode cL_law (pc + 5) = .ok (.ifCond .eq 7, 3)) (d6 : decode cL_law (pc + 8) = .ok (.iconst 1, 1)) (d7 : decode cL_law (pc + 9) = .ok (.goto 4, 3)) (d8 : decode cL_law (pc + 12) = .ok (.iconst 0, 1)) (kk : V x w (L0 bs h a0 i) (.int (b2i (decide (¬ xs (i + k) = 0))) :: st) (pc + 13)) : V x w (L0 bs h a0 i) st pc := by
  refine v_arg X hX hbl hbA hi h31 hn d0 d1 d2 d3 d4 ?_
  refine v_ifeq X (pc := pc + 5) (tgt := pc + 12) d5 (by omega) (fun c => ?_) (fun c => ?_)
  · refine v_iconst X (pc := pc + 12) (v := 0) d8 (by decide) ?_
    rw [decide_eq_false (fun q => q c)] at kk
    exact kk
  · refine v_iconst X (pc := pc + 8) (v := 1) d6 (by decide) ?_
    refine v_goto X (pc := pc + 9) (tgt := pc + 13) d7 (by omega) ?_
    rw [decide_eq_true c] at kk
    exact kk
set_option maxHeartbeats 4000000 in
set_option maxRecDepth 100000 in
theorem law_0 {x : Ctx} {bs a0 i Ln : Nat} {xs : Nat → Int32} (X : Cx x RL cL_law 8 10 350) (hX : va_X bs Ln xs x.s x.s.heap) (hbl : bs < x.s.heap.size) (hbA : ¬ x.A bs) (hi : i + 3 < Ln) (h31 : Ln < 2 ^ 31) (b : Nat → Nat → Nat) (a : Nat → Nat) {N : Nat} {G : NB} {z : Nat} {H : Nat → NB} {hs : Int32} {n0 n1 n2 : Blk} {ζ : Row} {η : Nat → Blk} {δ : Row} {χ μ : Blk} (S : St N G z H hs n0 n1 ζ η χ μ) (hN : N + 2600000 ≤ 536870912)
    (kk : ∀ (hs' : Int32) (n0' n1' n2' : Blk) (ζ' : Row) (η' : Nat → Blk) (δ' : Row) (χ' μ' : Blk), Inv (N + 500000) hs' n0' n1' ζ' η' χ' μ' → V x (wHS x.g b hs' n0' n1' n2' ζ' η' δ' χ' ++ wM x.g a μ') (L0 bs (b 11 0) (a 0) i) [] 933) : V x (wHS x.g b hs n0 n1 n2 ζ η δ χ ++ wM x.g a μ) (L0 bs (b 11 0) (a 0) i) [] 156 := by
  obtain ⟨r, n0', ζ', η', μ', f1, f2, I⟩ := sim_stile S (by omega) n2 δ (xs (i + 1)) (xs (i + 2))
  refine v_aload_n X (pc := 156) dL_law_156 rfl 1 rfl ?_
  refine v_arg X (pc := 157) (k := 1) hX hbl hbA (by omega) h31 (by decide) dL_law_157 dL_law_158 dL_law_159 dL_law_160 dL_law_161 ?_
  refine v_arg X (pc := 162) (k := 2) hX hbl hbA (by omega) h31 (by decide) dL_law_162 dL_law_163 dL_law_164 dL_law_165 dL_law_166 ?_
  refine v_callV X (pc := 167) (st1 := [.int r]) (w' := wHS x.g b hs n0' n1 n2 ζ' η' δ χ ++ wM x.g a μ) [.int (xs (i + 1)), .int (xs (i + 2))] [] (c_X5_stile x.l x.g b hs n0 n1 n2 ζ η δ χ (xs (i + 1)) (xs (i + 2)) f1) rfl rfl cw_X5_stile q_224 q_225 q_226 ⟨by decide, by decide⟩ 0 5 rfl rfl rfl (Fr.left rfl) rfl (Nat.le_of_ble_eq_true rfl) dL_law_167 ?_
  refine v_aload_n X (pc := 170) dL_law_170 rfl 2 rfl ?_
  refine v_arg X (pc := 171) (k := 1) hX hbl hbA (by omega) h31 (by decide) dL_law_171 dL_law_172 dL_law_173 dL_law_174 dL_law_175 ?_
  refine v_arg X (pc := 176) (k := 2) hX hbl hbA (by omega) h31 (by decide) dL_law_176 dL_law_177 dL_law_178 dL_law_179 dL_law_180 ?_
  refine v_callV X (pc := 181) (st1 := [.int r, .int r]) (w' := wHS x.g b hs n0' n1 n2 ζ' η' δ χ ++ wM x.g a μ') [.int (xs (i + 1)), .int (xs (i + 2))] [.int r] (c_X6_stile x.l x.g a μ (xs (i + 1)) (xs (i + 2)) f2) rfl rfl cw_X6_stile q_703 q_704 q_705 ⟨by decide, by decide⟩ 103 6 rfl rfl rfl (Fr.right rfl) rfl (Nat.le_of_ble_eq_true rfl) dL_law_181 ?_
  exact v_icmpeq X (pc := 184) (tgt := 933) dL_law_184 (by decide) (fun _ => kk hs n0' n1 n2 ζ' η' δ χ μ' I) (fun c => absurd rfl c)
set_option maxHeartbeats 4000000 in
set_option maxRecDepth 100000 in
theorem law_1 {x : Ctx} {bs a0 i Ln : Nat} {xs : Nat → Int32} (X : Cx x RL cL_law 8 10 350) (hX : va_X bs Ln xs x.s x.s.heap) (hbl : bs < x.s.heap.size) (hbA : ¬ x.A bs) (hi : i + 3 < Ln) (h31 : Ln < 2 ^ 31) (b : Nat → Nat → Nat) (a : Nat → Nat) {N : Nat} {G : NB} {z : Nat} {H : Nat → NB} {hs : Int32} {n0 n1 n2 : Blk} {ζ : Row} {η : Nat → Blk} {δ : Row} {χ μ : Blk} (S : St N G z H hs n0 n1 ζ η χ μ) (hN : N + 2600000 ≤ 536870912)
    (kk : ∀ (hs' : Int32) (n0' n1' n2' : Blk) (ζ' : Row) (η' : Nat → Blk) (δ' : Row) (χ' μ' : Blk), Inv (N + 500000) hs' n0' n1' ζ' η' χ' μ' → V x (wHS x.g b hs' n0' n1' n2' ζ' η' δ' χ' ++ wM x.g a μ') (L0 bs (b 11 0) (a 0) i) [] 933) : V x (wHS x.g b hs n0 n1 n2 ζ η δ χ ++ wM x.g a μ) (L0 bs (b 11 0) (a 0) i) [] 189 := by
  obtain ⟨r, n0', ζ', η', μ', f1, f2, I⟩ := sim_open S (by omega) n2 δ (xs (i + 1)) (xs (i + 2))
  refine v_aload_n X (pc := 189) dL_law_189 rfl 1 rfl ?_
  refine v_arg X (pc := 190) (k := 1) hX hbl hbA (by omega) h31 (by decide) dL_law_190 dL_law_191 dL_law_192 dL_law_193 dL_law_194 ?_
  refine v_arg X (pc := 195) (k := 2) hX hbl hbA (by omega) h31 (by decide) dL_law_195 dL_law_196 dL_law_197 dL_law_198 dL_law_199 ?_
  refine v_callV X (pc := 200) (st1 := [.int r]) (w' := wHS x.g b hs n0' n1 n2 ζ' η' δ χ ++ wM x.g a μ) [.int (xs (i + 1)), .int (xs (i + 2))] [] (c_X5_open x.l x.g b hs n0 n1 n2 ζ η δ χ (xs (i + 1)) (xs (i + 2)) f1) rfl rfl cw_X5_open q_261 q_262 q_263 ⟨by decide, by decide⟩ 0 5 rfl rfl rfl (Fr.left rfl) rfl (Nat.le_of_ble_eq_true rfl) dL_law_200 ?_
  refine v_aload_n X (pc := 203) dL_law_203 rfl 2 rfl ?_
  refine v_arg X (pc := 204) (k := 1) hX hbl hbA (by omega) h31 (by decide) dL_law_204 dL_law_205 dL_law_206 dL_law_207 dL_law_208 ?_
  refine v_arg X (pc := 209) (k := 2) hX hbl hbA (by omega) h31 (by decide) dL_law_209 dL_law_210 dL_law_211 dL_law_212 dL_law_213 ?_
  refine v_callV X (pc := 214) (st1 := [.int r, .int r]) (w' := wHS x.g b hs n0' n1 n2 ζ' η' δ χ ++ wM x.g a μ') [.int (xs (i + 1)), .int (xs (i + 2))] [.int r] (c_X6_open x.l x.g a μ (xs (i + 1)) (xs (i + 2)) f2) rfl rfl cw_X6_open q_724 q_725 q_726 ⟨by decide, by decide⟩ 103 6 rfl rfl rfl (Fr.right rfl) rfl (Nat.le_of_ble_eq_true rfl) dL_law_214 ?_
  exact v_icmpeq X (pc := 217) (tgt := 933) dL_law_217 (by decide) (fun _ => kk hs n0' n1 n2 ζ' η' δ χ μ' I) (fun c => absurd rfl c)
set_option maxHeartbeats 4000000 in
set_option maxRecDepth 100000 in
theorem law_2 {x : Ctx} {bs a0 i Ln : Nat} {xs : Nat → Int32} (X : Cx x RL cL_law 8 10 350) (hX : va_X bs Ln xs x.s x.s.heap) (hbl : bs < x.s.heap.size) (hbA : ¬ x.A bs) (hi : i + 3 < Ln) (h31 : Ln < 2 ^ 31) (b : Nat → Nat → Nat) (a : Nat → Nat) {N : Nat} {G : NB} {z : Nat} {H : Nat → NB} {hs : Int32} {n0 n1 n2 : Blk} {ζ : Row} {η : Nat → Blk} {δ : Row} {χ μ : Blk} (S : St N G z H hs n0 n1 ζ η χ μ) (hN : N + 2600000 ≤ 536870912)
    (kk : ∀ (hs' : Int32) (n0' n1' n2' : Blk) (ζ' : Row) (η' : Nat → Blk) (δ' : Row) (χ' μ' : Blk), Inv (N + 500000) hs' n0' n1' ζ' η' χ' μ' → V x (wHS x.g b hs' n0' n1' n2' ζ' η' δ' χ' ++ wM x.g a μ') (L0 bs (b 11 0) (a 0) i) [] 933) : V x (wHS x.g b hs n0 n1 n2 ζ η δ χ ++ wM x.g a μ) (L0 bs (b 11 0) (a 0) i) [] 222 := by
  obtain ⟨r, n0', ζ', η', μ', f1, f2, I⟩ := sim_room S (by omega) n2 δ (xs (i + 1)) (xs (i + 2))
  refine v_aload_n X (pc := 222) dL_law_222 rfl 1 rfl ?_
  refine v_arg X (pc := 223) (k := 1) hX hbl hbA (by omega) h31 (by decide) dL_law_223 dL_law_224 dL_law_225 dL_law_226 dL_law_227 ?_
  refine v_arg X (pc := 228) (k := 2) hX hbl hbA (by omega) h31 (by decide) dL_law_228 dL_law_229 dL_law_230 dL_law_231 dL_law_232 ?_
  refine v_callV X (pc := 233) (st1 := [.int r]) (w' := wHS x.g b hs n0' n1 n2 ζ' η' δ χ ++ wM x.g a μ) [.int (xs (i + 1)), .int (xs (i + 2))] [] (c_X5_room x.l x.g b hs n0 n1 n2 ζ η δ χ (xs (i + 1)) (xs (i + 2)) f1) rfl rfl cw_X5_room q_273 q_274 q_275 ⟨by decide, by decide⟩ 0 5 rfl rfl rfl (Fr.left rfl) rfl (Nat.le_of_ble_eq_true rfl) dL_law_233 ?_
  refine v_aload_n X (pc := 236) dL_law_236 rfl 2 rfl ?_
  refine v_arg X (pc := 237) (k := 1) hX hbl hbA (by omega) h31 (by decide) dL_law_237 dL_law_238 dL_law_239 dL_law_240 dL_law_241 ?_
  refine v_arg X (pc := 242) (k := 2) hX hbl hbA (by omega) h31 (by decide) dL_law_242 dL_law_243 dL_law_244 dL_law_245 dL_law_246 ?_
  refine v_callV X (pc := 247) (st1 := [.int r, .int r]) (w' := wHS x.g b hs n0' n1 n2 ζ' η' δ χ ++ wM x.g a μ') [.int (xs (i + 1)), .int (xs (i + 2))] [.int r] (c_X6_room x.l x.g a μ (xs (i + 1)) (xs (i + 2)) f2) rfl rfl cw_X6_room q_732 q_733 q_734 ⟨by decide, by decide⟩ 103 6 rfl rfl rfl (Fr.right rfl) rfl (Nat.le_of_ble_eq_true rfl) dL_law_247 ?_
  exact v_icmpeq X (pc := 250) (tgt := 933) dL_law_250 (by decide) (fun _ => kk hs n0' n1 n2 ζ' η' δ χ μ' I) (fun c => absurd rfl c)
set_option maxHeartbeats 4000000 in
set_option maxRecDepth 100000 in
theorem law_3 {x : Ctx} {bs a0 i Ln : Nat} {xs : Nat → Int32} (X : Cx x RL cL_law 8 10 350) (hX : va_X bs Ln xs x.s x.s.heap) (hbl : bs < x.s.heap.size) (hbA : ¬ x.A bs) (hi : i + 3 < Ln) (h31 : Ln < 2 ^ 31) (b : Nat → Nat → Nat) (a : Nat → Nat) {N : Nat} {G : NB} {z : Nat} {H : Nat → NB} {hs : Int32} {n0 n1 n2 : Blk} {ζ : Row} {η : Nat → Blk} {δ : Row} {χ μ : Blk} (S : St N G z H hs n0 n1 ζ η χ μ) (hN : N + 2600000 ≤ 536870912)
    (kk : ∀ (hs' : Int32) (n0' n1' n2' : Blk) (ζ' : Row) (η' : Nat → Blk) (δ' : Row) (χ' μ' : Blk), Inv (N + 500000) hs' n0' n1' ζ' η' χ' μ' → V x (wHS x.g b hs' n0' n1' n2' ζ' η' δ' χ' ++ wM x.g a μ') (L0 bs (b 11 0) (a 0) i) [] 933) : V x (wHS x.g b hs n0 n1 n2 ζ η δ χ ++ wM x.g a μ) (L0 bs (b 11 0) (a 0) i) [] 255 := by
  obtain ⟨r, n0', ζ', η', μ', f1, f2, I⟩ := sim_slip S (by omega) n2 δ (xs (i + 1)) (xs (i + 2)) (xs (i + 3))
  refine v_aload_n X (pc := 255) dL_law_255 rfl 1 rfl ?_
  refine v_arg X (pc := 256) (k := 1) hX hbl hbA (by omega) h31 (by decide) dL_law_256 dL_law_257 dL_law_258 dL_law_259 dL_law_260 ?_
  refine v_arg X (pc := 261) (k := 2) hX hbl hbA (by omega) h31 (by decide) dL_law_261 dL_law_262 dL_law_263 dL_law_264 dL_law_265 ?_
  refine v_arg X (pc := 266) (k := 3) hX hbl hbA (by omega) h31 (by decide) dL_law_266 dL_law_267 dL_law_268 dL_law_269 dL_law_270 ?_
  refine v_callV X (pc := 271) (st1 := [.int r]) (w' := wHS x.g b hs n0' n1 n2 ζ' η' δ χ ++ wM x.g a μ) [.int (xs (i + 1)), .int (xs (i + 2)), .int (xs (i + 3))] [] (c_X5_slip x.l x.g b hs n0 n1 n2 ζ η δ χ (xs (i + 1)) (xs (i + 2)) (xs (i + 3)) f1) rfl rfl cw_X5_slip q_281 q_282 q_283 ⟨by decide, by decide⟩ 0 5 rfl rfl rfl (Fr.left rfl) rfl (Nat.le_of_ble_eq_true rfl) dL_law_271 ?_
  refine v_aload_n X (pc := 274) dL_law_274 rfl 2 rfl ?_
  refine v_arg X (pc := 275) (k := 1) hX hbl hbA (by omega) h31 (by decide) dL_law_275 dL_law_276 dL_law_277 dL_law_278 dL_law_279 ?_
  refine v_arg X (pc := 280) (k := 2) hX hbl hbA (by omega) h31 (by decide) dL_law_280 dL_law_281 dL_law_282 dL_law_283 dL_law_284 ?_
  refine v_arg X (pc := 285) (k := 3) hX hbl hbA (by omega) h31 (by decide) dL_law_285 dL_law_286 dL_law_287 dL_law_288 dL_law_289 ?_
  refine v_callV X (pc := 290) (st1 := [.int r, .int r]) (w' := wHS x.g b hs n0' n1 n2 ζ' η' δ χ ++ wM x.g a μ') [.int (xs (i + 1)), .int (xs (i + 2)), .int (xs (i + 3))] [.int r] (c_X6_slip x.l x.g a μ (xs (i + 1)) (xs (i + 2)) (xs (i + 3)) f2) rfl rfl cw_X6_slip q_740 q_741 q_742 ⟨by decide, by decide⟩ 103 6 rfl rfl rfl (Fr.right rfl) rfl (Nat.le_of_ble_eq_true rfl) dL_law_290 ?_
  exact v_icmpeq X (pc := 293) (tgt := 933) dL_law_293 (by decide) (fun _ => kk hs n0' n1 n2 ζ' η' δ χ μ' I) (fun c => absurd rfl c)
set_option maxHeartbeats 4000000 in
set_option maxRecDepth 100000 in
theorem law_4 {x : Ctx} {bs a0 i Ln : Nat} {xs : Nat → Int32} (X : Cx x RL cL_law 8 10 350) (hX : va_X bs Ln xs x.s x.s.heap) (hbl : bs < x.s.heap.size) (hbA : ¬ x.A bs) (hi : i + 3 < Ln) (h31 : Ln < 2 ^ 31) (b : Nat → Nat → Nat) (a : Nat → Nat) {N : Nat} {G : NB} {z : Nat} {H : Nat → NB} {hs : Int32} {n0 n1 n2 : Blk} {ζ : Row} {η : Nat → Blk} {δ : Row} {χ μ : Blk} (S : St N G z H hs n0 n1 ζ η χ μ) (hN : N + 2600000 ≤ 536870912)
    (kk : ∀ (hs' : Int32) (n0' n1' n2' : Blk) (ζ' : Row) (η' : Nat → Blk) (δ' : Row) (χ' μ' : Blk), Inv (N + 500000) hs' n0' n1' ζ' η' χ' μ' → V x (wHS x.g b hs' n0' n1' n2' ζ' η' δ' χ' ++ wM x.g a μ') (L0 bs (b 11 0) (a 0) i) [] 933) : V x (wHS x.g b hs n0 n1 n2 ζ η δ χ ++ wM x.g a μ) (L0 bs (b 11 0) (a 0) i) [] 298 := by
  obtain ⟨r, n0', ζ', η', μ', f1, f2, I⟩ := sim_pass S (by omega) n2 δ (xs (i + 1)) (decide (¬ xs (i + 2) = 0)) (xs (i + 3))
  refine v_aload_n X (pc := 298) dL_law_298 rfl 1 rfl ?_
  refine v_arg X (pc := 299) (k := 1) hX hbl hbA (by omega) h31 (by decide) dL_law_299 dL_law_300 dL_law_301 dL_law_302 dL_law_303 ?_
  refine v_argB X (pc := 304) (k := 2) hX hbl hbA (by omega) h31 (by decide) dL_law_304 dL_law_305 dL_law_306 dL_law_307 dL_law_308 dL_law_309 dL_law_312 dL_law_313 dL_law_316 ?_
  refine v_arg X (pc := 317) (k := 3) hX hbl hbA (by omega) h31 (by decide) dL_law_317 dL_law_318 dL_law_319 dL_law_320 dL_law_321 ?_
  refine v_callV X (pc := 322) (st1 := [.int r]) (w' := wHS x.g b hs n0' n1 n2 ζ' η' δ χ ++ wM x.g a μ) [.int (xs (i + 1)), .int (b2i (decide (¬ xs (i + 2) = 0))), .int (xs (i + 3))] [] (c_X5_pass x.l x.g b hs n0 n1 n2 ζ η δ χ (xs (i + 1)) (decide (¬ xs (i + 2) = 0)) (xs (i + 3)) f1) rfl rfl cw_X5_pass q_299 q_300 q_301 ⟨by decide, by decide⟩ 0 5 rfl rfl rfl (Fr.left rfl) rfl (Nat.le_of_ble_eq_true rfl) dL_law_322 ?_
  refine v_aload_n X (pc := 325) dL_law_325 rfl 2 rfl ?_
  refine v_arg X (pc := 326) (k := 1) hX hbl hbA (by omega) h31 (by decide) dL_law_326 dL_law_327 dL_law_328 dL_law_329 dL_law_330 ?_
  refine v_argB X (pc := 331) (k := 2) hX hbl hbA (by omega) h31 (by decide) dL_law_331 dL_law_332 dL_law_333 dL_law_334 dL_law_335 dL_law_336 dL_law_339 dL_law_340 dL_law_343 ?_
  refine v_arg X (pc := 344) (k := 3) hX hbl hbA (by omega) h31 (by decide) dL_law_344 dL_law_345 dL_law_346 dL_law_347 dL_law_348 ?_
  refine v_callV X (pc := 349) (st1 := [.int r, .int r]) (w' := wHS x.g b hs n0' n1 n2 ζ' η' δ χ ++ wM x.g a μ') [.int (xs (i + 1)), .int (b2i (decide (¬ xs (i + 2) = 0))), .int (xs (i + 3))] [.int r] (c_X6_pass x.l x.g a μ (xs (i + 1)) (decide (¬ xs (i + 2) = 0)) (xs (i + 3)) f2) rfl rfl cw_X6_pass q_747 q_748 q_749 ⟨by decide, by decide⟩ 103 6 rfl rfl rfl (Fr.right rfl) rfl (Nat.le_of_ble_eq_true rfl) dL_law_349 ?_
  exact v_icmpeq X (pc := 352) (tgt := 933) dL_law_352 (by decide) (fun _ => kk hs n0' n1 n2 ζ' η' δ χ μ' I) (fun c => absurd rfl c)
set_option maxHeartbeats 4000000 in
set_option maxRecDepth 100000 in
theorem law_5 {x : Ctx} {bs a0 i Ln : Nat} {xs : Nat → Int32} (X : Cx x RL cL_law 8 10 350) (hX : va_X bs Ln xs x.s x.s.heap) (hbl : bs < x.s.heap.size) (hbA : ¬ x.A bs) (hi : i + 3 < Ln) (h31 : Ln < 2 ^ 31) (b : Nat → Nat → Nat) (a : Nat → Nat) {N : Nat} {G : NB} {z : Nat} {H : Nat → NB} {hs : Int32} {n0 n1 n2 : Blk} {ζ : Row} {η : Nat → Blk} {δ : Row} {χ μ : Blk} (S : St N G z H hs n0 n1 ζ η χ μ) (hN : N + 2600000 ≤ 536870912)
    (kk : ∀ (hs' : Int32) (n0' n1' n2' : Blk) (ζ' : Row) (η' : Nat → Blk) (δ' : Row) (χ' μ' : Blk), Inv (N + 500000) hs' n0' n1' ζ' η' χ' μ' → V x (wHS x.g b hs' n0' n1' n2' ζ' η' δ' χ' ++ wM x.g a μ') (L0 bs (b 11 0) (a 0) i) [] 933) : V x (wHS x.g b hs n0 n1 n2 ζ η δ χ ++ wM x.g a μ) (L0 bs (b 11 0) (a 0) i) [] 357 := by
  obtain ⟨r, n0', ζ', η', μ', f1, f2, I⟩ := sim_audit S (by omega) n2 δ (xs (i + 1))
  refine v_aload_n X (pc := 357) dL_law_357 rfl 1 rfl ?_
  refine v_arg X (pc := 358) (k := 1) hX hbl hbA (by omega) h31 (by decide) dL_law_358 dL_law_359 dL_law_360 dL_law_361 dL_law_362 ?_
  refine v_callV X (pc := 363) (st1 := [.int r]) (w' := wHS x.g b hs n0' n1 n2 ζ' η' δ χ ++ wM x.g a μ) [.int (xs (i + 1))] [] (c_X5_audit x.l x.g b hs n0 n1 n2 ζ η δ χ (xs (i + 1)) f1) rfl rfl cw_X5_audit q_372 q_373 q_374 ⟨by decide, by decide⟩ 0 5 rfl rfl rfl (Fr.left rfl) rfl (Nat.le_of_ble_eq_true rfl) dL_law_363 ?_
  refine v_aload_n X (pc := 366) dL_law_366 rfl 2 rfl ?_
  refine v_arg X (pc := 367) (k := 1) hX hbl hbA (by omega) h31 (by decide) dL_law_367 dL_law_368 dL_law_369 dL_law_370 dL_law_371 ?_
  refine v_callV X (pc := 372) (st1 := [.int r, .int r]) (w' := wHS x.g b hs n0' n1 n2 ζ' η' δ χ ++ wM x.g a μ') [.int (xs (i + 1))] [.int r] (c_X6_audit x.l x.g a μ (xs (i + 1)) f2) rfl rfl cw_X6_audit q_790 q_791 q_792 ⟨by decide, by decide⟩ 103 6 rfl rfl rfl (Fr.right rfl) rfl (Nat.le_of_ble_eq_true rfl) dL_law_372 ?_
  exact v_icmpeq X (pc := 375) (tgt := 933) dL_law_375 (by decide) (fun _ => kk hs n0' n1 n2 ζ' η' δ χ μ' I) (fun c => absurd rfl c)
set_option maxHeartbeats 4000000 in
set_option maxRecDepth 100000 in
theorem law_6 {x : Ctx} {bs a0 i Ln : Nat} {xs : Nat → Int32} (X : Cx x RL cL_law 8 10 350) (hX : va_X bs Ln xs x.s x.s.heap) (hbl : bs < x.s.heap.size) (hbA : ¬ x.A bs) (hi : i + 3 < Ln) (h31 : Ln < 2 ^ 31) (b : Nat → Nat → Nat) (a : Nat → Nat) {N : Nat} {G : NB} {z : Nat} {H : Nat → NB} {hs : Int32} {n0 n1 n2 : Blk} {ζ : Row} {η : Nat → Blk} {δ : Row} {χ μ : Blk} (S : St N G z H hs n0 n1 ζ η χ μ) (hN : N + 2600000 ≤ 536870912)
    (kk : ∀ (hs' : Int32) (n0' n1' n2' : Blk) (ζ' : Row) (η' : Nat → Blk) (δ' : Row) (χ' μ' : Blk), Inv (N + 500000) hs' n0' n1' ζ' η' χ' μ' → V x (wHS x.g b hs' n0' n1' n2' ζ' η' δ' χ' ++ wM x.g a μ') (L0 bs (b 11 0) (a 0) i) [] 933) : V x (wHS x.g b hs n0 n1 n2 ζ η δ χ ++ wM x.g a μ) (L0 bs (b 11 0) (a 0) i) [] 380 := by
  obtain ⟨r, n0', ζ', η', μ', f1, f2, I⟩ := sim_repair S (by omega) n2 δ (xs (i + 1))
  refine v_aload_n X (pc := 380) dL_law_380 rfl 1 rfl ?_
  refine v_arg X (pc := 381) (k := 1) hX hbl hbA (by omega) h31 (by decide) dL_law_381 dL_law_382 dL_law_383 dL_law_384 dL_law_385 ?_
  refine v_callV X (pc := 386) (st1 := [.int r]) (w' := wHS x.g b hs n0' n1 n2 ζ' η' δ χ ++ wM x.g a μ) [.int (xs (i + 1))] [] (c_X5_repair x.l x.g b hs n0 n1 n2 ζ η δ χ (xs (i + 1)) f1) rfl rfl cw_X5_repair q_387 q_388 q_389 ⟨by decide, by decide⟩ 0 5 rfl rfl rfl (Fr.left rfl) rfl (Nat.le_of_ble_eq_true rfl) dL_law_386 ?_
  refine v_aload_n X (pc := 389) dL_law_389 rfl 2 rfl ?_
  refine v_arg X (pc := 390) (k := 1) hX hbl hbA (by omega) h31 (by decide) dL_law_390 dL_law_391 dL_law_392 dL_law_393 dL_law_394 ?_
  refine v_callV X (pc := 395) (st1 := [.int r, .int r]) (w' := wHS x.g b hs n0' n1 n2 ζ' η' δ χ ++ wM x.g a μ') [.int (xs (i + 1))] [.int r] (c_X6_repair x.l x.g a μ (xs (i + 1)) f2) rfl rfl cw_X6_repair q_798 q_799 q_800 ⟨by decide, by decide⟩ 103 6 rfl rfl rfl (Fr.right rfl) rfl (Nat.le_of_ble_eq_true rfl) dL_law_395 ?_
  exact v_icmpeq X (pc := 398) (tgt := 933) dL_law_398 (by decide) (fun _ => kk hs n0' n1 n2 ζ' η' δ χ μ' I) (fun c => absurd rfl c)
set_option maxHeartbeats 4000000 in
set_option maxRecDepth 100000 in
theorem law_7 {x : Ctx} {bs a0 i Ln : Nat} {xs : Nat → Int32} (X : Cx x RL cL_law 8 10 350) (hX : va_X bs Ln xs x.s x.s.heap) (hbl : bs < x.s.heap.size) (hbA : ¬ x.A bs) (hi : i + 3 < Ln) (h31 : Ln < 2 ^ 31) (b : Nat → Nat → Nat) (a : Nat → Nat) {N : Nat} {G : NB} {z : Nat} {H : Nat → NB} {hs : Int32} {n0 n1 n2 : Blk} {ζ : Row} {η : Nat → Blk} {δ : Row} {χ μ : Blk} (S : St N G z H hs n0 n1 ζ η χ μ) (hN : N + 2600000 ≤ 536870912)
    (kk : ∀ (hs' : Int32) (n0' n1' n2' : Blk) (ζ' : Row) (η' : Nat → Blk) (δ' : Row) (χ' μ' : Blk), Inv (N + 500000) hs' n0' n1' ζ' η' χ' μ' → V x (wHS x.g b hs' n0' n1' n2' ζ' η' δ' χ' ++ wM x.g a μ') (L0 bs (b 11 0) (a 0) i) [] 933) : V x (wHS x.g b hs n0 n1 n2 ζ η δ χ ++ wM x.g a μ) (L0 bs (b 11 0) (a 0) i) [] 403 := by
  obtain ⟨r, n0', ζ', η', μ', f1, f2, I⟩ := sim_hours S (by omega) n2 δ (xs (i + 1))
  refine v_aload_n X (pc := 403) dL_law_403 rfl 1 rfl ?_
  refine v_arg X (pc := 404) (k := 1) hX hbl hbA (by omega) h31 (by decide) dL_law_404 dL_law_405 dL_law_406 dL_law_407 dL_law_408 ?_
  refine v_callV X (pc := 409) (st1 := [.int r]) (w' := wHS x.g b hs n0' n1 n2 ζ' η' δ χ ++ wM x.g a μ) [.int (xs (i + 1))] [] (c_X5_hours x.l x.g b hs n0 n1 n2 ζ η δ χ (xs (i + 1)) f1) rfl rfl cw_X5_hours q_399 q_400 q_401 ⟨by decide, by decide⟩ 0 5 rfl rfl rfl (Fr.left rfl) rfl (Nat.le_of_ble_eq_true rfl) dL_law_409 ?_
  refine v_aload_n X (pc := 412) dL_law_412 rfl 2 rfl ?_
  refine v_arg X (pc := 413) (k := 1) hX hbl hbA (by omega) h31 (by decide) dL_law_413 dL_law_414 dL_law_415 dL_law_416 dL_law_417 ?_
  refine v_callV X (pc := 418) (st1 := [.int r, .int r]) (w' := wHS x.g b hs n0' n1 n2 ζ' η' δ χ ++ wM x.g a μ') [.int (xs (i + 1))] [.int r] (c_X6_hours x.l x.g a μ (xs (i + 1)) f2) rfl rfl cw_X6_hours q_802 q_803 q_804 ⟨by decide, by decide⟩ 103 6 rfl rfl rfl (Fr.right rfl) rfl (Nat.le_of_ble_eq_true rfl) dL_law_418 ?_
  exact v_icmpeq X (pc := 421) (tgt := 933) dL_law_421 (by decide) (fun _ => kk hs n0' n1 n2 ζ' η' δ χ μ' I) (fun c => absurd rfl c)
set_option maxHeartbeats 4000000 in
set_option maxRecDepth 100000 in
theorem law_8 {x : Ctx} {bs a0 i Ln : Nat} {xs : Nat → Int32} (X : Cx x RL cL_law 8 10 350) (hX : va_X bs Ln xs x.s x.s.heap) (hbl : bs < x.s.heap.size) (hbA : ¬ x.A bs) (hi : i + 3 < Ln) (h31 : Ln < 2 ^ 31) (b : Nat → Nat → Nat) (a : Nat → Nat) {N : Nat} {G : NB} {z : Nat} {H : Nat → NB} {hs : Int32} {n0 n1 n2 : Blk} {ζ : Row} {η : Nat → Blk} {δ : Row} {χ μ : Blk} (S : St N G z H hs n0 n1 ζ η χ μ) (hN : N + 2600000 ≤ 536870912)
    (kk : ∀ (hs' : Int32) (n0' n1' n2' : Blk) (ζ' : Row) (η' : Nat → Blk) (δ' : Row) (χ' μ' : Blk), Inv (N + 500000) hs' n0' n1' ζ' η' χ' μ' → V x (wHS x.g b hs' n0' n1' n2' ζ' η' δ' χ' ++ wM x.g a μ') (L0 bs (b 11 0) (a 0) i) [] 933) : V x (wHS x.g b hs n0 n1 n2 ζ η δ χ ++ wM x.g a μ) (L0 bs (b 11 0) (a 0) i) [] 426 := by
  obtain ⟨r, n0', ζ', η', δ', μ', f1, f2, I⟩ := sim_close S (by omega) n2 δ (xs (i + 1))
  refine v_aload_n X (pc := 426) dL_law_426 rfl 1 rfl ?_
  refine v_arg X (pc := 427) (k := 1) hX hbl hbA (by omega) h31 (by decide) dL_law_427 dL_law_428 dL_law_429 dL_law_430 dL_law_431 ?_
  refine v_callV X (pc := 432) (st1 := [.int r]) (w' := wHS x.g b hs n0' n1 n2 ζ' η' δ' χ ++ wM x.g a μ) [.int (xs (i + 1))] [] (c_X5_close x.l x.g b hs n0 n1 n2 ζ η δ χ (xs (i + 1)) f1) rfl rfl cw_X5_close q_419 q_420 q_421 ⟨by decide, by decide⟩ 0 5 rfl rfl rfl (Fr.left rfl) rfl (Nat.le_of_ble_eq_true rfl) dL_law_432 ?_
  refine v_aload_n X (pc := 435) dL_law_435 rfl 2 rfl ?_
  refine v_arg X (pc := 436) (k := 1) hX hbl hbA (by omega) h31 (by decide) dL_law_436 dL_law_437 dL_law_438 dL_law_439 dL_law_440 ?_
  refine v_callV X (pc := 441) (st1 := [.int r, .int r]) (w' := wHS x.g b hs n0' n1 n2 ζ' η' δ' χ ++ wM x.g a μ') [.int (xs (i + 1))] [.int r] (c_X6_close x.l x.g a μ (xs (i + 1)) f2) rfl rfl cw_X6_close q_814 q_815 q_816 ⟨by decide, by decide⟩ 103 6 rfl rfl rfl (Fr.right rfl) rfl (Nat.le_of_ble_eq_true rfl) dL_law_441 ?_
  exact v_icmpeq X (pc := 444) (tgt := 933) dL_law_444 (by decide) (fun _ => kk hs n0' n1 n2 ζ' η' δ' χ μ' I) (fun c => absurd rfl c)
set_option maxHeartbeats 4000000 in
set_option maxRecDepth 100000 in
theorem law_9 {x : Ctx} {bs a0 i Ln : Nat} {xs : Nat → Int32} (X : Cx x RL cL_law 8 10 350) (hX : va_X bs Ln xs x.s x.s.heap) (hbl : bs < x.s.heap.size) (hbA : ¬ x.A bs) (hi : i + 3 < Ln) (h31 : Ln < 2 ^ 31) (b : Nat → Nat → Nat) (a : Nat → Nat) {N : Nat} {G : NB} {z : Nat} {H : Nat → NB} {hs : Int32} {n0 n1 n2 : Blk} {ζ : Row} {η : Nat → Blk} {δ : Row} {χ μ : Blk} (S : St N G z H hs n0 n1 ζ η χ μ) (hN : N + 2600000 ≤ 536870912)
    (kk : ∀ (hs' : Int32) (n0' n1' n2' : Blk) (ζ' : Row) (η' : Nat → Blk) (δ' : Row) (χ' μ' : Blk), Inv (N + 500000) hs' n0' n1' ζ' η' χ' μ' → V x (wHS x.g b hs' n0' n1' n2' ζ' η' δ' χ' ++ wM x.g a μ') (L0 bs (b 11 0) (a 0) i) [] 933) : V x (wHS x.g b hs n0 n1 n2 ζ η δ χ ++ wM x.g a μ) (L0 bs (b 11 0) (a 0) i) [] 449 := by
  obtain ⟨r, n0', ζ', η', μ', f1, f2, I⟩ := sim_set S (by omega) n2 δ (xs (i + 1)) (xs (i + 2))
  refine v_aload_n X (pc := 449) dL_law_449 rfl 1 rfl ?_
  refine v_arg X (pc := 450) (k := 1) hX hbl hbA (by omega) h31 (by decide) dL_law_450 dL_law_451 dL_law_452 dL_law_453 dL_law_454 ?_
  refine v_arg X (pc := 455) (k := 2) hX hbl hbA (by omega) h31 (by decide) dL_law_455 dL_law_456 dL_law_457 dL_law_458 dL_law_459 ?_
  refine v_callV X (pc := 460) (st1 := [.int r]) (w' := wHS x.g b hs n0' n1 n2 ζ' η' δ χ ++ wM x.g a μ) [.int (xs (i + 1)), .int (xs (i + 2))] [] (c_X5_set x.l x.g b hs n0 n1 n2 ζ η δ χ (xs (i + 1)) (xs (i + 2)) f1) rfl rfl cw_X5_set q_463 q_464 q_465 ⟨by decide, by decide⟩ 0 5 rfl rfl rfl (Fr.left rfl) rfl (Nat.le_of_ble_eq_true rfl) dL_law_460 ?_
  refine v_aload_n X (pc := 463) dL_law_463 rfl 2 rfl ?_
  refine v_arg X (pc := 464) (k := 1) hX hbl hbA (by omega) h31 (by decide) dL_law_464 dL_law_465 dL_law_466 dL_law_467 dL_law_468 ?_
  refine v_arg X (pc := 469) (k := 2) hX hbl hbA (by omega) h31 (by decide) dL_law_469 dL_law_470 dL_law_471 dL_law_472 dL_law_473 ?_
  refine v_callV X (pc := 474) (st1 := [.int r, .int r]) (w' := wHS x.g b hs n0' n1 n2 ζ' η' δ χ ++ wM x.g a μ') [.int (xs (i + 1)), .int (xs (i + 2))] [.int r] (c_X6_set x.l x.g a μ (xs (i + 1)) (xs (i + 2)) f2) rfl rfl cw_X6_set q_835 q_836 q_837 ⟨by decide, by decide⟩ 103 6 rfl rfl rfl (Fr.right rfl) rfl (Nat.le_of_ble_eq_true rfl) dL_law_474 ?_
  exact v_icmpeq X (pc := 477) (tgt := 933) dL_law_477 (by decide) (fun _ => kk hs n0' n1 n2 ζ' η' δ χ μ' I) (fun c => absurd rfl c)
set_option maxHeartbeats 4000000 in
set_option maxRecDepth 100000 in
theorem law_10 {x : Ctx} {bs a0 i Ln : Nat} {xs : Nat → Int32} (X : Cx x RL cL_law 8 10 350) (hX : va_X bs Ln xs x.s x.s.heap) (hbl : bs < x.s.heap.size) (hbA : ¬ x.A bs) (hi : i + 3 < Ln) (h31 : Ln < 2 ^ 31) (b : Nat → Nat → Nat) (a : Nat → Nat) {N : Nat} {G : NB} {z : Nat} {H : Nat → NB} {hs : Int32} {n0 n1 n2 : Blk} {ζ : Row} {η : Nat → Blk} {δ : Row} {χ μ : Blk} (S : St N G z H hs n0 n1 ζ η χ μ) (hN : N + 2600000 ≤ 536870912)
    (kk : ∀ (hs' : Int32) (n0' n1' n2' : Blk) (ζ' : Row) (η' : Nat → Blk) (δ' : Row) (χ' μ' : Blk), Inv (N + 500000) hs' n0' n1' ζ' η' χ' μ' → V x (wHS x.g b hs' n0' n1' n2' ζ' η' δ' χ' ++ wM x.g a μ') (L0 bs (b 11 0) (a 0) i) [] 933) : V x (wHS x.g b hs n0 n1 n2 ζ η δ χ ++ wM x.g a μ) (L0 bs (b 11 0) (a 0) i) [] 482 := by
  obtain ⟨r, χ', μ', f1, f2, I⟩ := sim_append S (by omega) n2 δ (xs (i + 1))
  refine v_aload_n X (pc := 482) dL_law_482 rfl 1 rfl ?_
  refine v_arg X (pc := 483) (k := 1) hX hbl hbA (by omega) h31 (by decide) dL_law_483 dL_law_484 dL_law_485 dL_law_486 dL_law_487 ?_
  refine v_callV X (pc := 488) (st1 := [.int r]) (w' := wHS x.g b hs n0 n1 n2 ζ η δ χ' ++ wM x.g a μ) [.int (xs (i + 1))] [] (c_X5_append x.l x.g b hs n0 n1 n2 ζ η δ χ (xs (i + 1)) f1) rfl rfl cw_X5_append q_467 q_468 q_469 ⟨by decide, by decide⟩ 0 5 rfl rfl rfl (Fr.left rfl) rfl (Nat.le_of_ble_eq_true rfl) dL_law_488 ?_
  refine v_aload_n X (pc := 491) dL_law_491 rfl 2 rfl ?_
  refine v_arg X (pc := 492) (k := 1) hX hbl hbA (by omega) h31 (by decide) dL_law_492 dL_law_493 dL_law_494 dL_law_495 dL_law_496 ?_
  refine v_callV X (pc := 497) (st1 := [.int r, .int r]) (w' := wHS x.g b hs n0 n1 n2 ζ η δ χ' ++ wM x.g a μ') [.int (xs (i + 1))] [.int r] (c_X6_append x.l x.g a μ (xs (i + 1)) f2) rfl rfl cw_X6_append q_839 q_840 q_841 ⟨by decide, by decide⟩ 103 6 rfl rfl rfl (Fr.right rfl) rfl (Nat.le_of_ble_eq_true rfl) dL_law_497 ?_
  exact v_icmpeq X (pc := 500) (tgt := 933) dL_law_500 (by decide) (fun _ => kk hs n0 n1 n2 ζ η δ χ' μ' I) (fun c => absurd rfl c)
set_option maxHeartbeats 4000000 in
set_option maxRecDepth 100000 in
theorem law_11 {x : Ctx} {bs a0 i Ln : Nat} {xs : Nat → Int32} (X : Cx x RL cL_law 8 10 350) (hX : va_X bs Ln xs x.s x.s.heap) (hbl : bs < x.s.heap.size) (hbA : ¬ x.A bs) (hi : i + 3 < Ln) (h31 : Ln < 2 ^ 31) (b : Nat → Nat → Nat) (a : Nat → Nat) {N : Nat} {G : NB} {z : Nat} {H : Nat → NB} {hs : Int32} {n0 n1 n2 : Blk} {ζ : Row} {η : Nat → Blk} {δ : Row} {χ μ : Blk} (S : St N G z H hs n0 n1 ζ η χ μ) (hN : N + 2600000 ≤ 536870912)
    (kk : ∀ (hs' : Int32) (n0' n1' n2' : Blk) (ζ' : Row) (η' : Nat → Blk) (δ' : Row) (χ' μ' : Blk), Inv (N + 500000) hs' n0' n1' ζ' η' χ' μ' → V x (wHS x.g b hs' n0' n1' n2' ζ' η' δ' χ' ++ wM x.g a μ') (L0 bs (b 11 0) (a 0) i) [] 933) : V x (wHS x.g b hs n0 n1 n2 ζ η δ χ ++ wM x.g a μ) (L0 bs (b 11 0) (a 0) i) [] 505 := by
  obtain ⟨r, χ', μ', f1, f2, I⟩ := sim_clear S (by omega) n2 δ 
  refine v_aload_n X (pc := 505) dL_law_505 rfl 1 rfl ?_
  refine v_callV X (pc := 506) (st1 := [.int r]) (w' := wHS x.g b hs n0 n1 n2 ζ η δ χ' ++ wM x.g a μ) [] [] (c_X5_clearText x.l x.g b hs n0 n1 n2 ζ η δ χ  f1) rfl rfl cw_X5_clearText q_476 q_477 q_478 ⟨by decide, by decide⟩ 0 5 rfl rfl rfl (Fr.left rfl) rfl (Nat.le_of_ble_eq_true rfl) dL_law_506 ?_
  refine v_aload_n X (pc := 509) dL_law_509 rfl 2 rfl ?_
  refine v_callV X (pc := 510) (st1 := [.int r, .int r]) (w' := wHS x.g b hs n0 n1 n2 ζ η δ χ' ++ wM x.g a μ') [] [.int r] (c_X6_clearText x.l x.g a μ  f2) rfl rfl cw_X6_clearText q_843 q_844 q_845 ⟨by decide, by decide⟩ 103 6 rfl rfl rfl (Fr.right rfl) rfl (Nat.le_of_ble_eq_true rfl) dL_law_510 ?_
  exact v_icmpeq X (pc := 513) (tgt := 933) dL_law_513 (by decide) (fun _ => kk hs n0 n1 n2 ζ η δ χ' μ' I) (fun c => absurd rfl c)
set_option maxHeartbeats 4000000 in
set_option maxRecDepth 100000 in
theorem law_12 {x : Ctx} {bs a0 i Ln : Nat} {xs : Nat → Int32} (X : Cx x RL cL_law 8 10 350) (hX : va_X bs Ln xs x.s x.s.heap) (hbl : bs < x.s.heap.size) (hbA : ¬ x.A bs) (hi : i + 3 < Ln) (h31 : Ln < 2 ^ 31) (b : Nat → Nat → Nat) (a : Nat → Nat) {N : Nat} {G : NB} {z : Nat} {H : Nat → NB} {hs : Int32} {n0 n1 n2 : Blk} {ζ : Row} {η : Nat → Blk} {δ : Row} {χ μ : Blk} (S : St N G z H hs n0 n1 ζ η χ μ) (hN : N + 2600000 ≤ 536870912)
    (kk : ∀ (hs' : Int32) (n0' n1' n2' : Blk) (ζ' : Row) (η' : Nat → Blk) (δ' : Row) (χ' μ' : Blk), Inv (N + 500000) hs' n0' n1' ζ' η' χ' μ' → V x (wHS x.g b hs' n0' n1' n2' ζ' η' δ' χ' ++ wM x.g a μ') (L0 bs (b 11 0) (a 0) i) [] 933) : V x (wHS x.g b hs n0 n1 n2 ζ η δ χ ++ wM x.g a μ) (L0 bs (b 11 0) (a 0) i) [] 518 := by
  obtain ⟨r, μ', f1, f2, I⟩ := sim_fault S (by omega) n2 δ 
  refine v_aload_n X (pc := 518) dL_law_518 rfl 1 rfl ?_
  refine v_callV X (pc := 519) (st1 := [.int r]) (w' := wHS x.g b hs n0 n1 n2 ζ η δ χ ++ wM x.g a μ) [] [] (c_X5_fault x.l x.g b hs n0 n1 n2 ζ η δ χ  f1) rfl rfl cw_X5_fault q_480 q_481 q_482 ⟨by decide, by decide⟩ 0 5 rfl rfl rfl (Fr.left rfl) rfl (Nat.le_of_ble_eq_true rfl) dL_law_519 ?_
  refine v_aload_n X (pc := 522) dL_law_522 rfl 2 rfl ?_
  refine v_callV X (pc := 523) (st1 := [.int r, .int r]) (w' := wHS x.g b hs n0 n1 n2 ζ η δ χ ++ wM x.g a μ') [] [.int r] (c_X6_fault x.l x.g a μ  f2) rfl rfl cw_X6_fault q_847 q_848 q_849 ⟨by decide, by decide⟩ 103 6 rfl rfl rfl (Fr.right rfl) rfl (Nat.le_of_ble_eq_true rfl) dL_law_523 ?_
  exact v_icmpeq X (pc := 526) (tgt := 933) dL_law_526 (by decide) (fun _ => kk hs n0 n1 n2 ζ η δ χ μ' I) (fun c => absurd rfl c)
