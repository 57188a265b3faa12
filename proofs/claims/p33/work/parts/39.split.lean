/-! CALLS IN PAIRS: split -/
section SPL
def updP (V : St) (k c x y : Int) : St := updS (updM (updM (updM (updJ (up V 15 k 1) x y) (V 11 k) (V 1 0) 0) (V 12 k) (V 1 0) 0) c (V 1 0) 0) (V 1 0) (V 2 0) k
theorem Inv_P {V : St} {k c x y : Int} (hI : Inv V) (hn : V 1 0 < 10) (hm : V 2 0 ≤ 37) (hk : 0 ≤ k ∧ k < V 2 0 ∧ V 15 k = 0) (hc : 0 ≤ c ∧ c < V 1 0) (hc1 : c ≠ V 11 k) (hc2 : c ≠ V 12 k) (hp : inPt x y) : Inv (updP V k c x y) := by
  have h0 := Inv_gone (k := k) hI
  have h1 := Inv_J (a := x) (b := y) h0 hn hp
  obtain ⟨⟨n0, n10, m0, m40, hE⟩, _, _, _, _, hs0, hs1, _⟩ := hI
  obtain ⟨b1, b2, b3, b4, b5, b6⟩ := hE k hk.1 hk.2.1
  obtain ⟨b7, b8⟩ := b6 hk.2.2
  have hz : ∀ i, up V 15 k 1 15 i = 0 → V 15 i = 0 := fun i z => by
    rw [up_at] at z
    by_cases q : i = k
    · rw [if_pos q] at z; exact absurd z (by decide)
    · rw [if_neg q] at z; exact z
  have h2 := Inv_M (a := V 11 k) (b := V 1 0) (t := 0) h1 (by show V 2 0 < 40; omega) ⟨b1, by show V 11 k < V 1 0 + 1; omega⟩ ⟨n0, by show V 1 0 < V 1 0 + 1; omega⟩ (by omega) (fun i i0 i1 z z2 => by
    have := (hE i i0 i1).2.2.2.2.2 (hz i z)
    have z2' : (V 11 i = V 11 k ∧ V 12 i = V 1 0) ∨ (V 11 i = V 1 0 ∧ V 12 i = V 11 k) := z2
    omega)
  have h3 := Inv_M (a := V 12 k) (b := V 1 0) (t := 0) h2 (by show V 2 0 + 1 < 40; omega) ⟨b3, by show V 12 k < V 1 0 + 1; omega⟩ ⟨n0, by show V 1 0 < V 1 0 + 1; omega⟩ (by omega) (fun i i0 i1 z z2 => by
    have i1' : i < V 2 0 + 1 := i1
    have z2' : ((if i = V 2 0 then V 11 k else V 11 i) = V 12 k ∧ (if i = V 2 0 then V 1 0 else V 12 i) = V 1 0) ∨ ((if i = V 2 0 then V 11 k else V 11 i) = V 1 0 ∧ (if i = V 2 0 then V 1 0 else V 12 i) = V 12 k) := z2
    by_cases q : i = V 2 0
    · rw [if_pos q, if_pos q] at z2'; omega
    · rw [if_neg q, if_neg q] at z2'
      have := (hE i i0 (by omega)).2.2.2.2.2 (hz i z)
      omega)
  have h4 := Inv_M (a := c) (b := V 1 0) (t := 0) h3 (by show V 2 0 + 1 + 1 < 40; omega) ⟨hc.1, by show c < V 1 0 + 1; omega⟩ ⟨n0, by show V 1 0 < V 1 0 + 1; omega⟩ (by omega) (fun i i0 i1 z z2 => by
    have i1' : i < V 2 0 + 1 + 1 := i1
    have z2' : ((if i = V 2 0 + 1 then V 12 k else if i = V 2 0 then V 11 k else V 11 i) = c ∧ (if i = V 2 0 + 1 then V 1 0 else if i = V 2 0 then V 1 0 else V 12 i) = V 1 0) ∨ ((if i = V 2 0 + 1 then V 12 k else if i = V 2 0 then V 11 k else V 11 i) = V 1 0 ∧ (if i = V 2 0 + 1 then V 1 0 else if i = V 2 0 then V 1 0 else V 12 i) = c) := z2
    by_cases q : i = V 2 0 + 1
    · rw [if_pos q, if_pos q] at z2'; omega
    · rw [if_neg q, if_neg q] at z2'
      by_cases q2 : i = V 2 0
      · rw [if_pos q2, if_pos q2] at z2'; omega
      · rw [if_neg q2, if_neg q2] at z2'
        have := (hE i i0 (by omega)).2.2.2.2.2 (hz i z)
        omega)
  have hnb : nb k = 3 := by unfold nb; rw [if_neg (by omega)]
  refine Inv_S h4 (by show V 3 0 < V 1 0 + 1; omega) ⟨n0, by show V 1 0 < V 1 0 + 1; omega⟩ (fun t t0 t1 => (hs1 t t0 t1).2) m0 (by rw [hnb]; show V 2 0 + 3 ≤ V 2 0 + 1 + 1 + 1; omega) (fun i i0 i1 => ?_) (Or.inr ⟨hk.1, by show k < V 2 0 + 1 + 1 + 1; omega, ?_, ?_⟩)
  · rw [hnb] at i1
    show (if V 2 0 + i = V 2 0 + 1 + 1 then V 1 0 else if V 2 0 + i = V 2 0 + 1 then V 1 0 else if V 2 0 + i = V 2 0 then V 1 0 else V 12 (V 2 0 + i)) = V 1 0
    split
    · rfl
    · split
      · rfl
      · rw [if_pos (by omega)]
  · show (if k = V 2 0 + 1 + 1 then c else if k = V 2 0 + 1 then V 12 k else if k = V 2 0 then V 11 k else V 11 k) < V 1 0
    rw [if_neg (by omega), if_neg (by omega), if_neg (by omega)]; exact b7
  · show (if k = V 2 0 + 1 + 1 then V 1 0 else if k = V 2 0 + 1 then V 1 0 else if k = V 2 0 then V 1 0 else V 12 k) < V 1 0
    rw [if_neg (by omega), if_neg (by omega), if_neg (by omega)]; exact b8
section
variable {S : St} {Qr : Int → St → Prop} {Qx : String → St → Prop}
end
theorem pr_split {V : St} (hI : Inv V) (k a x y : Int) : PairP V [IOOBE, IAE, ISE] (M_X6_split k a x y) (fun c r V' => (((0 ≤ k ∧ k < V 2 0 ∧ V 15 k = 0) ∧ (0 ≤ a ∧ a < V 1 0)) ∧ ((a ≠ V 11 k ∧ a ≠ V 12 k) ∧ inPt x y) ∧ (V 1 0 < 10 ∧ V 2 0 ≤ 37) ∧ c = 0 ∧ r = V 1 0 ∧ V' = updP V k a x y) ∨ (((0 ≤ k ∧ k < V 2 0 ∧ V 15 k = 0) ∧ (0 ≤ a ∧ a < V 1 0)) ∧ ((a ≠ V 11 k ∧ a ≠ V 12 k) ∧ inPt x y) ∧ ¬ (V 1 0 < 10 ∧ V 2 0 ≤ 37) ∧ c = 3 ∧ V' = V) ∨ (((0 ≤ k ∧ k < V 2 0 ∧ V 15 k = 0) ∧ (0 ≤ a ∧ a < V 1 0)) ∧ ¬ ((a ≠ V 11 k ∧ a ≠ V 12 k) ∧ inPt x y) ∧ c = 2 ∧ V' = V) ∨ (¬ ((0 ≤ k ∧ k < V 2 0 ∧ V 15 k = 0) ∧ (0 ≤ a ∧ a < V 1 0)) ∧ c = 1 ∧ V' = V)) := by
  have hI0 := hI
  obtain ⟨⟨n0, n10, m0, m40, hm⟩, _, _, _, _, hs0, hs1, _⟩ := hI0
  by_cases hj : (0 ≤ k ∧ k < V 2 0 ∧ V 15 k = 0) ∧ (0 ≤ a ∧ a < V 1 0)
  · obtain ⟨b1, b2, b3, b4, b5, b6⟩ := hm k hj.1.1 hj.1.2.1
    by_cases hp : (a ≠ V 11 k ∧ a ≠ V 12 k) ∧ inPt x y
    · by_cases hc : V 1 0 < 10 ∧ V 2 0 ≤ 37
      · refine ⟨0, V 1 0, updP V k a x y, Or.inl ⟨hj, hp, hc, rfl, rfl, rfl⟩, Inv_P hI hc.1 hc.2 hj.1 hj.2 hp.1.1 hp.1.2 hp.2, by decide, by decide, fun S hS Qr Qx h _ => ?_⟩
        · subst hS
          have e1 : S 1 4 = vw S 1 0 := rfl
          have e2 : S 2 5 = vw S 2 0 := rfl
          refine vc_X6_split fun _ _ _ _ _ => sp_X6_requireMember m40 (fun _ _ _ _ => sp_X6_requireJoint (fun _ _ _ => sp_X3_endsAt hj.1.1 (by omega) (fun z => ?_) (fun z => ?_)) (fun z => absurd hj.2 z)) (fun z => absurd hj.1 z)
          · rcases z with z | z
            · exact absurd z.symm hp.1.1
            · exact absurd z.symm hp.1.2
          · intro _ _
            refine ⟨fun _ => sp_X6_requirePoint (fun _ _ => sp_X6_requireRoomForJoint (fun _ _ => sp_X6_requireRoomForMembers (by decide) (by decide) (fun _ _ => ?_) (fun z => by omega)) (fun z => by omega)) (fun z => absurd hp.2 z), fun z => absurd rfl z⟩
            refine sv_X1_add rfl n0 hc.1 fun S1 v1 _ _ => ⟨⟨hj.1.1, by omega⟩, ?_⟩
            have v1' : vw (up S1 15 k 1) = updJ (up (vw S) 15 k 1) x y := by rw [vw_up (by decide), v1, upG_J]
            have e11 : S1 11 k = vw S 11 k := by
              have := congrFun (congrFun v1 11) k
              exact this
            rw [e11]
            refine sv_X3_add v1' m0 (by show vw S 2 0 < 40; omega) fun S2 v2 _ _ => ?_
            have e12 : S2 12 k = vw S 12 k := by
              have : S2 12 k = if k = vw S 2 0 then vw S 1 0 else vw S 12 k := congrFun (congrFun v2 12) k
              rw [this, if_neg (by omega)]
            rw [e12]
            exact sv_X3_add v2 (by show 0 ≤ vw S 2 0 + 1; omega) (by show vw S 2 0 + 1 < 40; omega) fun S3 v3 _ _ => sv_X3_add v3 (by show 0 ≤ vw S 2 0 + 1 + 1; omega) (by show vw S 2 0 + 1 + 1 < 40; omega) fun S4 v4 _ _ => sv_X5_add v4 hs0.1 (by show vw S 3 0 < 10; omega) fun S5 v5 _ => h rfl S5 v5
      · refine ⟨3, 0, V, Or.inr (Or.inl ⟨hj, hp, hc, rfl, rfl⟩), hI, by decide, by decide, fun S hS Qr Qx _ hx => ?_⟩
        · subst hS
          have e1 : S 1 4 = vw S 1 0 := rfl
          have e2 : S 2 5 = vw S 2 0 := rfl
          refine vc_X6_split fun _ _ _ _ _ => sp_X6_requireMember m40 (fun _ _ _ _ => sp_X6_requireJoint (fun _ _ _ => sp_X3_endsAt hj.1.1 (by omega) (fun z => ?_) (fun z => ?_)) (fun z => absurd hj.2 z)) (fun z => absurd hj.1 z)
          · rcases z with z | z
            · exact absurd z.symm hp.1.1
            · exact absurd z.symm hp.1.2
          · intro _ _
            exact ⟨fun _ => sp_X6_requirePoint (fun _ _ => sp_X6_requireRoomForJoint (fun _ _ => sp_X6_requireRoomForMembers (by decide) (by decide) (fun _ => by omega) (fun _ => hx (by decide) _ rfl)) (fun _ => hx (by decide) _ rfl)) (fun z => absurd hp.2 z), fun z => absurd rfl z⟩
    · refine ⟨2, 0, V, Or.inr (Or.inr (Or.inl ⟨hj, hp, rfl, rfl⟩)), hI, by decide, by decide, fun S hS Qr Qx _ hx => ?_⟩
      · subst hS
        refine vc_X6_split fun _ _ _ _ _ => sp_X6_requireMember m40 (fun _ _ _ _ => sp_X6_requireJoint (fun _ _ _ => sp_X3_endsAt hj.1.1 (by omega) (fun z => ?_) (fun z => ?_)) (fun z => absurd hj.2 z)) (fun z => absurd hj.1 z)
        · intro _ _
          exact ⟨fun z => absurd z (by decide), fun _ => hx (by decide) _ rfl⟩
        · intro _ _
          exact ⟨fun _ => sp_X6_requirePoint (fun q => absurd ⟨⟨fun e => z (Or.inl e.symm), fun e => z (Or.inr e.symm)⟩, q⟩ hp) (fun _ => hx (by decide) _ rfl), fun z => absurd rfl z⟩
  · refine ⟨1, 0, V, Or.inr (Or.inr (Or.inr (⟨hj, rfl, rfl⟩))), hI, by decide, by decide, fun S hS Qr Qx _ hx => ?_⟩
    · subst hS
      exact vc_X6_split fun _ _ _ _ _ => sp_X6_requireMember m40 (fun z1 z2 z5 _ => sp_X6_requireJoint (fun z3 z4 => absurd ⟨⟨z1, z2, z5⟩, z3, z4⟩ hj) (fun _ => hx (by decide) _ rfl)) (fun _ => hx (by decide) _ rfl)
end SPL
