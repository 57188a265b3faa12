/-! CALLS IN PAIRS: proper stresses -/
section PROP
/-- a member that is there and told wrongly -/
def wrg (V : St) (k : Int) : Bool := decide (V 15 k = 0 ∧ ((V 13 k = 1 ∧ V 14 k < 0) ∨ (V 13 k = 2 ∧ 0 < V 14 k)))
def any (p : Int → Bool) (i : Int) : Bool := decide (0 < cn p i)
theorem any_s {p : Int → Bool} {i : Int} (h : 0 ≤ i) : any p (i + 1) = (any p i || p i) := by
  have hr := cn_rng p h
  unfold any
  rw [cn_s h]
  by_cases q : p i = true
  · rw [if_pos q, q, Bool.or_true]; exact decide_eq_true (by omega)
  · rw [if_neg q, Bool.eq_false_iff.2 q, Bool.or_false, Int.add_zero]
theorem any_up {p : Int → Bool} {i j : Int} (h0 : 0 ≤ i) (hij : i ≤ j) (h : any p i = true) : any p j = true := by
  have := cn_le (p := p) h0 (j - i).toNat j (by omega)
  have h' := of_decide_eq_true h
  exact decide_eq_true (by omega)
def toldx (V : St) (k : Int) : Bool := decide (V 15 k = 0 ∧ V 14 k ≠ 0)
def proper (V : St) : Int := if any (wrg V) (V 2 0) = false ∧ any (toldx V) (V 2 0) = true ∧ un V (V 1 0) = 0 then 1 else 0
def bi (b : Bool) : Int := if b then 1 else 0
variable {S : St} {Qr : Int → St → Prop} {Qx : String → St → Prop}
theorem sp_X6_isProper (hI : Inv (vw S)) (h : Qr (proper (vw S)) S) : M_X6_isProper S Qr Qx := by
  obtain ⟨n0, n10, m0, m40, hE⟩ := hI.1
  have key : ∀ (d : Nat) (i : Int), 0 ≤ i → i + d = vw S 2 0 → any (wrg (vw S)) i = false → R_X6_isProper_4 (bi (any (toldx (vw S)) i)) i S Qr Qx := by
    intro d
    induction d with
    | zero =>
      intro i hi0 hi hw
      have e : i = vw S 2 0 := by omega
      rw [e] at hw ⊢
      unfold proper at h
      refine vc_X6_isProper_4 fun _ _ _ => ⟨fun _ => ⟨fun q => ?_, fun q => sp_X6_unbalanced hI fun _ _ => ⟨fun q2 => ?_, fun q2 => ?_⟩⟩, fun z => absurd z (by show ¬ S 2 5 < S 2 5; omega)⟩
      · rw [if_neg (fun z => by rw [z.2.1] at q; exact absurd q (by decide))] at h; exact h
      · rw [if_neg (fun z => q2 (by omega))] at h; exact h
      · have q' : any (toldx (vw S)) (vw S 2 0) = true := by
          cases hx : any (toldx (vw S)) (vw S 2 0) with
          | true => rfl
          | false => rw [hx] at q; exact absurd rfl q
        rw [if_pos ⟨hw, q', by omega⟩] at h; exact h
    | succ d ih =>
      intro i hi0 hi hw
      have hlt : i < vw S 2 0 := by omega
      have hnx := ih (i + 1) (by omega) (by omega)
      rw [any_s hi0, any_s hi0, hw, Bool.false_or] at hnx
      refine vc_X6_isProper_4 fun _ _ _ => ⟨fun z => absurd z (by show ¬ S 2 5 ≤ i; have : S 2 5 = vw S 2 0 := rfl; omega), fun _ => sp_X3_has m40 (fun p1 p2 p3 => ?_) (fun p => ?_)⟩
      · intro _ _
        refine ⟨fun z => absurd z (by decide), fun _ => sp_X3_isWronglyTold hi0 (by omega) (fun w => ?_) (fun w => ?_)⟩
        · intro _ _
          refine ⟨fun z => absurd z (by decide), fun _ => ?_⟩
          have hx : any (wrg (vw S)) (vw S 2 0) = true := any_up (i := i + 1) (by omega) (by omega) (by rw [any_s hi0, hw, Bool.false_or]; exact decide_eq_true ⟨p3, w⟩)
          unfold proper at h
          rw [if_neg (fun z => by rw [hx] at z; exact absurd z.1 (by decide))] at h
          exact h
        · intro _ _
          have hx := hnx (decide_eq_false fun z => w z.2)
          refine ⟨fun _ => ⟨⟨by omega, by omega⟩, fun q => ⟨⟨by omega, by omega⟩, ?_⟩, fun q => ⟨⟨by omega, by omega⟩, ?_⟩⟩, fun z => absurd rfl z⟩
          · rw [show toldx (vw S) i = false from decide_eq_false fun z => z.2 q, Bool.or_false] at hx; exact hx
          · rw [show toldx (vw S) i = true from decide_eq_true ⟨p3, q⟩, Bool.or_true] at hx; exact hx
      · intro _ _
        have p3 : ¬ vw S 15 i = 0 := fun z => p ⟨hi0, hlt, z⟩
        have hx := hnx (decide_eq_false fun z => p3 z.1)
        rw [show toldx (vw S) i = false from decide_eq_false fun z => p3 z.1, Bool.or_false] at hx
        exact ⟨fun _ => ⟨⟨by omega, by omega⟩, hx⟩, fun z => absurd rfl z⟩
  exact vc_X6_isProper fun _ => key (vw S 2 0).toNat 0 (by omega) (by omega) rfl
theorem sp_X7_properLoop (hI : Inv (cs S)) {s0 : Int} (hs : s0 = if un (cs S) (cs S 1 0) = 0 then 1 else 0) (h : Qr (proper (cs S)) S) : R_X7_isProper_17 s0 S Qr Qx := by
  obtain ⟨n0, n10, m0, m40, hE⟩ := hI.1
  have key : ∀ (d : Nat) (i : Int), 0 ≤ i → i + d = cs S 2 0 → R_X7_isProper_22 (bi (decide (un (cs S) (cs S 1 0) = 0) && !(any (wrg (cs S)) i))) (bi (any (toldx (cs S)) i)) i S Qr Qx := by
    intro d
    induction d with
    | zero =>
      intro i hi0 hi
      have e : i = cs S 2 0 := by omega
      rw [e]
      unfold proper at h
      refine vc_X7_isProper_22 fun _ _ _ _ => ⟨fun _ => ⟨fun q => ?_, fun q => ⟨fun q2 => ?_, fun q2 => ?_⟩⟩, fun z => absurd z (by show ¬ S 0 6 < S 0 6; omega)⟩
      · rw [if_neg (fun z => by rw [z.1, decide_eq_true z.2.2] at q; exact absurd q (by decide))] at h; exact h
      · rw [if_neg (fun z => by rw [z.2.1] at q2; exact absurd q2 (by decide))] at h; exact h
      · have a1 : decide (un (cs S) (cs S 1 0) = 0) = true ∧ any (wrg (cs S)) (cs S 2 0) = false := by
          cases hx : decide (un (cs S) (cs S 1 0) = 0) <;> cases hy : any (wrg (cs S)) (cs S 2 0) <;> rw [hx, hy] at q <;> first | exact ⟨rfl, rfl⟩ | exact absurd rfl q
        have a2 : any (toldx (cs S)) (cs S 2 0) = true := by
          cases hx : any (toldx (cs S)) (cs S 2 0) with
          | true => rfl
          | false => rw [hx] at q2; exact absurd rfl q2
        rw [if_pos ⟨a1.2, a2, of_decide_eq_true a1.1⟩] at h; exact h
    | succ d ih =>
      intro i hi0 hi
      have hlt : i < cs S 2 0 := by omega
      have hnx := ih (i + 1) (by omega) (by omega)
      rw [any_s hi0, any_s hi0] at hnx
      generalize any (toldx (cs S)) i = A at hnx ⊢
      generalize any (wrg (cs S)) i = W at hnx ⊢
      generalize decide (un (cs S) (cs S 1 0) = 0) = U at hnx ⊢
      have g126 : ∀ x2 s, x2 = bi (A || toldx (cs S) i) → s = bi (U && !(W || wrg (cs S) i)) → R_X7_isProper_126 x2 i s S Qr Qx := fun x2 s e1 e2 => by
        rw [e1, e2]
        exact vc_X7_isProper_126 fun _ _ _ _ => ⟨⟨by omega, by omega⟩, hnx⟩
      have g101 : ∀ x2 s, x2 = bi (A || toldx (cs S) i) → (S 9 i = 0 → (s = 0 ↔ wrg (cs S) i = false)) → R_X7_isProper_101 (bi (U && !W)) x2 i s S Qr Qx := fun x2 s e1 e2 => by
        have hng : S 9 i ≠ 0 → wrg (cs S) i = false := fun z => decide_eq_false fun y => z y.1
        refine vc_X7_isProper_101 fun _ _ _ _ _ => ⟨fun q => g126 x2 0 e1 ?_, fun q => ⟨⟨by omega, by omega⟩, fun p => g126 x2 1 e1 ?_, fun p => ⟨fun q2 => g126 x2 0 e1 ?_, fun q2 => g126 x2 1 e1 ?_⟩⟩⟩
        · cases U <;> cases W <;> first | rfl | exact absurd q (by decide)
        · rw [hng p]; cases U <;> cases W <;> first | rfl | exact absurd rfl q
        · have : wrg (cs S) i = true := by
            cases hx : wrg (cs S) i with
            | true => rfl
            | false => exact absurd ((e2 p).2 hx) q2
          rw [this]; cases U <;> cases W <;> rfl
        · rw [(e2 p).1 q2]; cases U <;> cases W <;> first | rfl | exact absurd rfl q
      have g57 : ∀ x2, x2 = bi (A || toldx (cs S) i) → R_X7_isProper_57 (bi (U && !W)) i x2 S Qr Qx := fun x2 e1 => by
        have e13 : S 7 i = cs S 13 i := rfl
        have e14 : S 8 i = cs S 14 i := rfl
        have n0 : ((cs S 13 i = 1 ∧ cs S 14 i < 0) ∨ (cs S 13 i = 2 ∧ 0 < cs S 14 i)) → R_X7_isProper_101 (bi (U && !W)) x2 i 1 S Qr Qx := fun z => g101 x2 1 e1 fun p => ⟨fun y => absurd y (by decide), fun y => absurd ⟨p, z⟩ (of_decide_eq_false y)⟩
        have n1 : ¬ ((cs S 13 i = 1 ∧ cs S 14 i < 0) ∨ (cs S 13 i = 2 ∧ 0 < cs S 14 i)) → R_X7_isProper_101 (bi (U && !W)) x2 i 0 S Qr Qx := fun z => g101 x2 0 e1 fun p => ⟨fun _ => decide_eq_false fun y => z y.2, fun _ => rfl⟩
        exact vc_X7_isProper_57 fun _ _ _ _ => ⟨⟨by omega, by omega⟩, fun q => ⟨fun q2 => n1 (by omega), fun q2 => ⟨fun q3 => n1 (by omega), fun q3 => n0 (by omega)⟩⟩, fun q => ⟨fun q2 => n0 (by omega), fun q2 => ⟨fun q3 => n1 (by omega), fun q3 => ⟨fun q4 => n1 (by omega), fun q4 => n0 (by omega)⟩⟩⟩⟩
      refine vc_X7_isProper_22 fun _ _ _ _ => ⟨fun z => absurd z (by show ¬ S 0 6 ≤ i; have : S 0 6 = cs S 2 0 := rfl; omega), fun _ => ⟨fun q => g57 1 ?_, fun q => ⟨⟨by omega, by omega⟩, fun p => g57 0 ?_, fun p => ⟨fun q2 => g57 0 ?_, fun q2 => g57 1 ?_⟩⟩⟩⟩
      · cases A
        · exact absurd rfl q
        · rfl
      · rw [show toldx (cs S) i = false from decide_eq_false fun z => p z.1]
        cases A
        · rfl
        · exact absurd q (by decide)
      · rw [show toldx (cs S) i = false from decide_eq_false fun z => z.2 q2]
        cases A
        · rfl
        · exact absurd q (by decide)
      · rw [show toldx (cs S) i = true from decide_eq_true ⟨p, q2⟩, Bool.or_true]
        rfl
  have := key (cs S 2 0).toNat 0 (by omega) (by omega)
  refine vc_X7_isProper_17 fun _ _ => ?_
  rw [hs]
  have e1 : any (wrg (cs S)) 0 = false := rfl
  have e2 : any (toldx (cs S)) 0 = false := rfl
  rw [e1, e2, Bool.not_false, Bool.and_true] at this
  have e3 : bi (decide (un (cs S) (cs S 1 0) = 0)) = if un (cs S) (cs S 1 0) = 0 then 1 else 0 := by
    unfold bi
    by_cases q : un (cs S) (cs S 1 0) = 0
    · rw [decide_eq_true q, if_pos rfl, if_pos q]
    · rw [decide_eq_false q, if_neg q]; rfl
  rw [e3] at this
  exact this
theorem pr_isProper {V : St} (hI : Inv V) : Pair V [] M_X6_isProper M_X7_isProper := by
  refine ⟨0, proper V, V, hI, by decide, by decide, fun S hS Qr Qx h _ => ?_, fun T hT hb Qr Qx h => ?_⟩
  · subst hS
    exact sp_X6_isProper hI (h rfl S rfl)
  · subst hT
    have ec : cs (up T 0 0 0) = cs T := cs_h0
    have hh : Qr (proper (cs (up T 0 0 0))) (up T 0 0 0) := end_R rfl hb rfl ⟨fq_rfl, fun _ _ => rfl⟩ h fun _ => by rw [ec]
    exact vc_X7_isProper fun _ => sp_X7_unbalancedSet (by rw [ec]; exact hI) fun _ _ => ⟨fun q => sp_X7_properLoop (by rw [ec]; exact hI) (by rw [if_neg (by omega)]) hh, fun q => sp_X7_properLoop (by rw [ec]; exact hI) (by rw [if_pos (by omega)]) hh⟩
end PROP
