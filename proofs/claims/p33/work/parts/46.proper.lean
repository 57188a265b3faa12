/-! CALLS IN PAIRS: proper stresses -/
section PROP
/-- a member that is there and told wrongly -/
def wrg (V : St) (k : Int) : Bool := decide (V 15 k = 0 ∧ ((V 13 k = 1 ∧ V 14 k < 0) ∨ (V 13 k = 2 ∧ 0 < V 14 k)))
def toldx (V : St) (k : Int) : Bool := decide (V 15 k = 0 ∧ V 14 k ≠ 0)
def proper (V : St) : Int := if any (wrg V) (V 2 0) = false ∧ any (toldx V) (V 2 0) = true ∧ un V (V 1 0) = 0 then 1 else 0
variable {S : St} {Qr : Int → St → Prop} {Qx : String → St → Prop}
theorem sp_X6_isProper (hI : Inv (vw S)) (h : Qr (proper (vw S)) S) : M_X6_isProper S Qr Qx := by
  obtain ⟨n0, n10, m0, m40, hE⟩ := hI.1
  have key : ∀ (d : Nat) (i : Int), 0 ≤ i → i + d = vw S 2 0 → any (wrg (vw S)) i = false → R_X6_isProper_4 (bi (any (toldx (vw S)) i)) i S Qr Qx := by
    intro d
    induction d with
    | zero =>
      intro i hi0 hi hw
      have e : i = vw S 2 0 := by omega
      rw [e] at hw ⊢
      unfold proper at h
      refine vc_X6_isProper_4 fun _ _ _ => ⟨fun _ => ⟨fun q => ?_, fun q => sp_X6_unbalanced hI fun _ _ => ⟨fun q2 => ?_, fun q2 => ?_⟩⟩, fun z => absurd z (by show ¬ S 2 5 < S 2 5; omega)⟩
      · rw [if_neg (fun z => by rw [z.2.1] at q; exact absurd q (by decide))] at h; exact h
      · rw [if_neg (fun z => q2 (by omega))] at h; exact h
      · have q' : any (toldx (vw S)) (vw S 2 0) = true := by
          cases hx : any (toldx (vw S)) (vw S 2 0) with
          | true => rfl
          | false => rw [hx] at q; exact absurd rfl q
        rw [if_pos ⟨hw, q', by omega⟩] at h; exact h
    | succ d ih =>
      intro i hi0 hi hw
      have hlt : i < vw S 2 0 := by omega
      have hnx := ih (i + 1) (by omega) (by omega)
      rw [any_s hi0, any_s hi0, hw, Bool.false_or] at hnx
      refine vc_X6_isProper_4 fun _ _ _ => ⟨fun z => absurd z (by show ¬ S 2 5 ≤ i; have : S 2 5 = vw S 2 0 := rfl; omega), fun _ => sp_X3_has m40 (fun p1 p2 p3 => ?_) (fun p => ?_)⟩
      · intro _ _
        refine ⟨fun z => absurd z (by decide), fun _ => sp_X3_isWronglyTold hi0 (by omega) (fun w => ?_) (fun w => ?_)⟩
        · intro _ _
          refine ⟨fun z => absurd z (by decide), fun _ => ?_⟩
          have hx : any (wrg (vw S)) (vw S 2 0) = true := any_up (i := i + 1) (by omega) (by omega) (by rw [any_s hi0, hw, Bool.false_or]; exact decide_eq_true ⟨p3, w⟩)
          unfold proper at h
          rw [if_neg (fun z => by rw [hx] at z; exact absurd z.1 (by decide))] at h
          exact h
        · intro _ _
          have hx := hnx (decide_eq_false fun z => w z.2)
          refine ⟨fun _ => ⟨⟨by omega, by omega⟩, fun q => ⟨⟨by omega, by omega⟩, ?_⟩, fun q => ⟨⟨by omega, by omega⟩, ?_⟩⟩, fun z => absurd rfl z⟩
          · rw [show toldx (vw S) i = false from decide_eq_false fun z => z.2 q, Bool.or_false] at hx; exact hx
          · rw [show toldx (vw S) i = true from decide_eq_true ⟨p3, q⟩, Bool.or_true] at hx; exact hx
      · intro _ _
        have p3 : ¬ vw S 15 i = 0 := fun z => p ⟨hi0, hlt, z⟩
        have hx := hnx (decide_eq_false fun z => p3 z.1)
        rw [show toldx (vw S) i = false from decide_eq_false fun z => p3 z.1, Bool.or_false] at hx
        exact ⟨fun _ => ⟨⟨by omega, by omega⟩, hx⟩, fun z => absurd rfl z⟩
  exact vc_X6_isProper fun _ => key (vw S 2 0).toNat 0 (by omega) (by omega) rfl
theorem pr_isProper {V : St} (hI : Inv V) : PairP V [] M_X6_isProper (fun c r V' => (c = 0 ∧ r = proper V ∧ V' = V)) := by
  refine ⟨0, proper V, V, ⟨rfl, rfl, rfl⟩, hI, by decide, by decide, fun S hS Qr Qx h _ => ?_⟩
  · subst hS
    exact sp_X6_isProper hI (h rfl S rfl)
end PROP
