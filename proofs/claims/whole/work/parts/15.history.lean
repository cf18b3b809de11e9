def rem5 (v : Int32) : Int32 := v - v / 5 * 5
def upN (η : Nat → Blk) (j : Nat) (σ : Blk) : Nat → Blk := fun i => cond (Nat.beq i j) σ (η i)
def f_X2_keep (h : Row) (η : Nat → Blk) (σ : Blk) : Option (Row × (Nat → Blk)) :=
  if ib (rem5 (h 0 + h 1)) 5 = true then (f_X4_copyFrom (η (rem5 (h 0 + h 1)).toNatClampNeg) σ).bind fun k => (if 5 ≤ h 1 then some (upd h 0 (rem5 (h 0 + 1)), upN η (rem5 (h 0 + h 1)).toNatClampNeg k) else some (upd h 1 (h 1 + 1), upN η (rem5 (h 0 + h 1)).toNatClampNeg k)) else none
def f_X2_takeLatest (h : Row) (η : Nat → Blk) (σ : Blk) : Option (Row × Blk) :=
  if h 1 ≤ 0 then some (h, σ) else if ib (rem5 (h 0 + (h 1 - 1))) 5 = true then (f_X4_copyFrom σ (η (rem5 (h 0 + (h 1 - 1))).toNatClampNeg)).bind fun k => some (upd h 1 (h 1 - 1), k) else none
theorem c_X2_keep (l : Launch) (g : Gl) (a : Nat → Nat) (c : Nat → Nat → Nat) (a2 : Nat → Nat) (h : Row) (η : Nat → Blk) (σ : Blk) {res : Row × (Nat → Blk)} (e : f_X2_keep h η σ = some res) : Ok l g yX2_keep cX2_keep 3 (Option.none : Option FieldType) 4 90 [.ref (a 0), .ref (a2 0)] (wHi g a c h η ++ wSt g a2 σ) none (wHi g a c res.1 res.2 ++ wSt g a2 σ) := by
  sorry
theorem c_X2_takeLatest (l : Launch) (g : Gl) (a : Nat → Nat) (c : Nat → Nat → Nat) (a2 : Nat → Nat) (h : Row) (η : Nat → Blk) (σ : Blk) {res : Row × Blk} (e : f_X2_takeLatest h η σ = some res) : Ok l g yX2_takeLatest cX2_takeLatest 3 (Option.none : Option FieldType) 4 90 [.ref (a 0), .ref (a2 0)] (wHi g a c h η ++ wSt g a2 σ) none (wHi g a c res.1 η ++ wSt g a2 res.2) := by
  sorry
theorem cw_X2_keep : CwB yX2_keep cX2_keep 3 (Option.none : Option FieldType) 1 := ⟨q_236, q_53, by decide, by decide, by decide +kernel⟩
theorem cw_X2_takeLatest : CwB yX2_takeLatest cX2_takeLatest 3 (Option.none : Option FieldType) 1 := ⟨q_545, q_53, by decide, by decide, by decide +kernel⟩
theorem cw_X2_stateAt : CwB yX2_stateAt cX2_stateAt 2 (Option.some (FieldType.object "HallStiles$State")) 1 := ⟨q_240, q_53, by decide, by decide, by decide +kernel⟩
