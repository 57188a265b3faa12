/-! THE BEGINNING: nothing is set -/
section ZERO
def S0 : St := fun _ _ => 0
theorem okC_S0 : okC S0 := fun k j => by
  show rngC k 0
  unfold rngC
  split <;> exact ⟨by decide, by decide⟩
theorem vw_S0 : vw S0 = S0 := by
  funext k j
  simp [vw, S0]
theorem Inv_S0 : Inv S0 :=
  ⟨⟨Int.le_refl _, by decide, Int.le_refl _, by decide, fun k k0 k1 => absurd k1 (by show ¬ k < 0; omega)⟩, ⟨Int.le_refl _, by decide, fun j j0 j1 => absurd j1 (by show ¬ j < 0; omega)⟩, fun _ => ⟨show (-1 : Int) ≤ 0 by decide, show (0 : Int) ≤ 30000 by decide⟩, fun _ => ⟨show (-99 : Int) ≤ 0 by decide, show (0 : Int) ≤ 99 by decide⟩, fun i j i0 ij j1 => absurd j1 (by show ¬ j < 0; omega), ⟨Int.le_refl _, Int.le_refl _⟩, fun s s0 s1 => absurd s1 (by show ¬ s < 0; omega), fun s t s0 st t1 => absurd t1 (by show ¬ t < 0; omega), fun s s0 s1 => absurd s1 (by show ¬ s < 0; omega), fun s s0 s1 => absurd s1 (by show ¬ s < 0; omega)⟩
theorem okL_S0 : okL S0 := okC_S0
theorem LJ_S0 : LJ S0 (fun _ => 0) (fun _ => 0) :=
  ⟨Inv_S0, fun _ _ => ⟨rfl, rfl⟩, ⟨rfl, rfl, rfl⟩, fun k k0 k1 => absurd k1 (by show ¬ k < 0; omega), Int.le_refl _, by decide⟩
end ZERO
