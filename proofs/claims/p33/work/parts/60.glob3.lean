/-! CALLS IN PAIRS: isGlobal, of the reference -/
section GLOB3
variable {S : St} {Qr : Int → St → Prop} {Qx : String → St → Prop}
theorem pr_isGlobal {V : St} (hI : Inv V) : PairP V [] M_X6_isGlobal (fun c r V' => (c = 0 ∧ V' = V ∧ ((Whole V ∨ Glob V) → r = 1) ∧ (¬ (Whole V ∨ Glob V) → r = 0))) := by
  have n0 := hI.1.1
  have n10 := hI.1.2.1
  have hx : ∃ r : Int, ((Whole V ∨ Glob V) → r = 1) ∧ (¬ (Whole V ∨ Glob V) → r = 0) := by
    by_cases q : Whole V ∨ Glob V
    · exact ⟨1, fun _ => rfl, fun z => absurd q z⟩
    · exact ⟨0, fun z => absurd z q, fun _ => rfl⟩
  obtain ⟨r, r1, r0⟩ := hx
  refine ⟨0, r, V, ⟨rfl, rfl, r1, r0⟩, hI, by decide, by decide, fun S hS Qr Qx h _ => ?_⟩
  · subst hS
    exact sp_X6_isGlobal hI (fun q S' v => by rw [← r1 q]; exact h rfl S' v) (fun q S' v => by rw [← r0 q]; exact h rfl S' v)
end GLOB3
