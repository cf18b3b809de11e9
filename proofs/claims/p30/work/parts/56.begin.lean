/-! the start -/
def G00 : NB := fun p i => if p = 0 then (if i = 1 then 30 else if i = 2 then 6 else 0) else if p = 1 then (if i < 6 then 100 else 0) else 0
theorem G00_z {p i : Nat} (h : 2 ≤ p) : G00 p i = 0 := by
  unfold G00
  rw [if_neg (by omega), if_neg (by omega)]
theorem wf_00 : WF 0 G00 := by
  refine ⟨by decide, by decide, fun h h1 h2 => ?_, fun k hk => ?_, fun k hk => absurd hk (Nat.not_lt_zero _), fun i hi => ?_, fun k _ hk => ?_, fun i _ hi => ?_⟩
  · have e : G00 1 h = 100 := by unfold G00; rw [if_neg (by decide), if_pos rfl, if_pos h2]
    rw [e, G00_z (by decide)]; decide
  · rw [G00_z (by decide), G00_z (by decide), G00_z (by decide), G00_z (by decide)]; decide
  · rw [G00_z (by decide), G00_z (by decide), G00_z (by decide), G00_z (by decide)]; decide
  · rw [G00_z (by decide), G00_z (by decide)]; decide
  · rw [G00_z (by decide), G00_z (by decide), G00_z (by decide), G00_z (by decide)]; decide
theorem cl_00 : Cls st0 G00 := by
  refine ⟨fun i hi => ?_, fun h h1 h2 => ?_, fun h h1 h2 => ?_, fun k hk => ?_, fun i hi => ?_⟩
  · have : i = 0 ∨ i = 1 ∨ i = 2 ∨ i = 3 := by omega
    rcases this with rfl | rfl | rfl | rfl <;> decide
  · have : h = 1 ∨ h = 2 ∨ h = 3 ∨ h = 4 ∨ h = 5 := by omega
    rcases this with rfl | rfl | rfl | rfl | rfl <;> decide
  · rw [G00_z (by decide)]; exact e0
  · rw [G00_z (by decide), G00_z (by decide), G00_z (by decide), G00_z (by decide)]
    exact ⟨e0, e0, e0, e0⟩
  · rw [G00_z (by decide), G00_z (by decide), G00_z (by decide), G00_z (by decide)]
    exact ⟨e0, e0, e0, e0⟩
theorem st_0 : St 0 G00 0 (fun _ => G00) none 0 st0 st0 (fun _ => 0) (fun _ => st0) :=
  ⟨wf_00, cl_00, ⟨by decide, e0, ⟨0, by decide, e0, fun i hi => absurd hi (Nat.not_lt_zero _)⟩, fun i hi => absurd hi (Nat.not_lt_zero _)⟩, rfl⟩
theorem ct8_0 : ctI G00 8 = nI 1 := by
  show nI (ful G00 6) = nI 1
  rw [show ful G00 6 = 1 by decide]
