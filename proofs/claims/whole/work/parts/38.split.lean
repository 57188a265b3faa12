/-! CALLS IN PAIRS: split -/
section SPL
def updP (V : St) (k c x y : Int) : St := updS (updM (updM (updM (updJ (up V 15 k 1) x y) (V 11 k) (V 1 0) 0) (V 12 k) (V 1 0) 0) c (V 1 0) 0) (V 1 0) (V 2 0) k
theorem Inv_P {V : St} {k c x y : Int} (hI : Inv V) (hn : V 1 0 < 10) (hm : V 2 0 ≤ 37) (hk : 0 ≤ k ∧ k < V 2 0 ∧ V 15 k = 0) (hc : 0 ≤ c ∧ c < V 1 0) (hc1 : c ≠ V 11 k) (hc2 : c ≠ V 12 k) (hp : inPt x y) : Inv (updP V k c x y) := by
  have h0 := Inv_gone (k := k) hI
  have h1 := Inv_J (a := x) (b := y) h0 hn hp
  obtain ⟨⟨n0, n10, m0, m40, hE⟩, _, _, _, _, hs0, hs1, _⟩ := hI
  obtain ⟨b1, b2, b3, b4, b5, b6⟩ := hE k hk.1 hk.2.1
  obtain ⟨b7, b8⟩ := b6 hk.2.2
  have hz : ∀ i, up V 15 k 1 15 i = 0 → V 15 i = 0 := fun i z => by
    rw [up_at] at z
    by_cases q : i = k
    · rw [if_pos q] at z; exact absurd z (by decide)
    · rw [if_neg q] at z; exact z
  have h2 := Inv_M (a := V 11 k) (b := V 1 0) (t := 0) h1 (by show V 2 0 < 40; omega) ⟨b1, by show V 11 k < V 1 0 + 1; omega⟩ ⟨n0, by show V 1 0 < V 1 0 + 1; omega⟩ (by omega) (fun i i0 i1 z z2 => by
    have := (hE i i0 i1).2.2.2.2.2 (hz i z)
    have z2' : (V 11 i = V 11 k ∧ V 12 i = V 1 0) ∨ (V 11 i = V 1 0 ∧ V 12 i = V 11 k) := z2
    omega)
  have h3 := Inv_M (a := V 12 k) (b := V 1 0) (t := 0) h2 (by show V 2 0 + 1 < 40; omega) ⟨b3, by show V 12 k < V 1 0 + 1; omega⟩ ⟨n0, by show V 1 0 < V 1 0 + 1; omega⟩ (by omega) (fun i i0 i1 z z2 => by
    have i1' : i < V 2 0 + 1 := i1
    have z2' : ((if i = V 2 0 then V 11 k else V 11 i) = V 12 k ∧ (if i = V 2 0 then V 1 0 else V 12 i) = V 1 0) ∨ ((if i = V 2 0 then V 11 k else V 11 i) = V 1 0 ∧ (if i = V 2 0 then V 1 0 else V 12 i) = V 12 k) := z2
    by_cases q : i = V 2 0
    · rw [if_pos q, if_pos q] at z2'; omega
    · rw [if_neg q, if_neg q] at z2'
      have := (hE i i0 (by omega)).2.2.2.2.2 (hz i z)
      omega)
  have h4 := Inv_M (a := c) (b := V 1 0) (t := 0) h3 (by show V 2 0 + 1 + 1 < 40; omega) ⟨hc.1, by show c < V 1 0 + 1; omega⟩ ⟨n0, by show V 1 0 < V 1 0 + 1; omega⟩ (by omega) (fun i i0 i1 z z2 => by
    have i1' : i < V 2 0 + 1 + 1 := i1
    have z2' : ((if i = V 2 0 + 1 then V 12 k else if i = V 2 0 then V 11 k else V 11 i) = c ∧ (if i = V 2 0 + 1 then V 1 0 else if i = V 2 0 then V 1 0 else V 12 i) = V 1 0) ∨ ((if i = V 2 0 + 1 then V 12 k else if i = V 2 0 then V 11 k else V 11 i) = V 1 0 ∧ (if i = V 2 0 + 1 then V 1 0 else if i = V 2 0 then V 1 0 else V 12 i) = c) := z2
    by_cases q : i = V 2 0 + 1
    · rw [if_pos q, if_pos q] at z2'; omega
    · rw [if_neg q, if_neg q] at z2'
      by_cases q2 : i = V 2 0
      · rw [if_pos q2, if_pos q2] at z2'; omega
      · rw [if_neg q2, if_neg q2] at z2'
        have := (hE i i0 (by omega)).2.2.2.2.2 (hz i z)
        omega)
  have hnb : nb k = 3 := by unfold nb; rw [if_neg (by omega)]
  refine Inv_S h4 (by show V 3 0 < V 1 0 + 1; omega) ⟨n0, by show V 1 0 < V 1 0 + 1; omega⟩ (fun t t0 t1 => (hs1 t t0 t1).2) m0 (by rw [hnb]; show V 2 0 + 3 ≤ V 2 0 + 1 + 1 + 1; omega) (fun i i0 i1 => ?_) (Or.inr ⟨hk.1, by show k < V 2 0 + 1 + 1 + 1; omega, ?_, ?_⟩)
  · rw [hnb] at i1
    show (if V 2 0 + i = V 2 0 + 1 + 1 then V 1 0 else if V 2 0 + i = V 2 0 + 1 then V 1 0 else if V 2 0 + i = V 2 0 then V 1 0 else V 12 (V 2 0 + i)) = V 1 0
    split
    · rfl
    · split
      · rfl
      · rw [if_pos (by omega)]
  · show (if k = V 2 0 + 1 + 1 then c else if k = V 2 0 + 1 then V 12 k else if k = V 2 0 then V 11 k else V 11 k) < V 1 0
    rw [if_neg (by omega), if_neg (by omega), if_neg (by omega)]; exact b7
  · show (if k = V 2 0 + 1 + 1 then V 1 0 else if k = V 2 0 + 1 then V 1 0 else if k = V 2 0 then V 1 0 else V 12 k) < V 1 0
    rw [if_neg (by omega), if_neg (by omega), if_neg (by omega)]; exact b8
section
variable {S : St} {Qr : Int → St → Prop} {Qx : String → St → Prop}
theorem s106x {x1 x2 x3 x4 c : Int} (hc : c ≠ 0) (h : Qr 0 (up S 0 0 c)) : R_X7_split_106 x1 x2 x3 x4 c S Qr Qx :=
  vc_X7_split_106 fun _ _ _ _ _ _ => sp_X7_holds (fun z => absurd z hc) fun _ _ _ => ⟨fun z => absurd rfl z, fun _ => h⟩
theorem s62x {x1 x2 x3 x4 x5 s0 c : Int} (hc : c ≠ 0) (h1 : x5 = 0 → c = 1) (h2 : x5 ≠ 0 → s0 = 0 → c = 2) (h3 : x5 ≠ 0 → s0 ≠ 0 → c = 3 ∧ (S 0 1 = 10 ∨ 37 < S 0 6)) (h : Qr 0 (up S 0 0 c)) : R_X7_split_62 x1 x2 x3 x4 x5 s0 S Qr Qx := by
  have f := s106x (x1 := x1) (x2 := x2) (x3 := x3) (x4 := x4) (Qx := Qx) hc h
  refine vc_X7_split_62 fun _ _ _ _ _ _ _ => ⟨fun q => ⟨fun q2 => ⟨fun _ => ?_, fun q3 => ⟨fun q4 => ?_, fun _ => ?_⟩⟩, fun q2 => ?_⟩, fun q => ?_⟩
  · rw [(h3 q q2).1] at f; exact f
  · have := (h3 q q2).2; omega
  · rw [(h3 q q2).1] at f; exact f
  · rw [h2 q q2] at f; exact f
  · rw [h1 q] at f; exact f
theorem s21x {x1 x2 x3 x4 x5 c : Int} (hc : c ≠ 0) (hx : x5 ≠ 0 → 0 ≤ x1 ∧ x1 < 40) (h1 : x5 = 0 → c = 1) (h2 : x5 ≠ 0 → ¬ (x2 ≠ S 5 x1 ∧ x2 ≠ S 6 x1 ∧ inPt x3 x4) → c = 2) (h3 : x5 ≠ 0 → (x2 ≠ S 5 x1 ∧ x2 ≠ S 6 x1 ∧ inPt x3 x4) → c = 3 ∧ (S 0 1 = 10 ∨ 37 < S 0 6)) (h : Qr 0 (up S 0 0 c)) : R_X7_split_21 x1 x2 x3 x4 x5 S Qr Qx :=
  vc_X7_split_21 fun _ _ _ _ _ _ => ⟨fun q => s62x hc h1 (fun z _ => absurd q z) (fun z _ => absurd q z) h, fun q0 => ⟨hx q0, fun q => s62x hc h1 (fun z _ => h2 z (fun y => y.1 q)) (fun _ z => absurd rfl z) h, fun q => ⟨fun q2 => s62x hc h1 (fun z _ => h2 z (fun y => y.2.1 q2)) (fun _ z => absurd rfl z) h, fun q2 => sp_X7_isPoint (fun q3 _ _ => ⟨fun z => absurd z (by decide), fun _ => s62x hc h1 (fun _ z => absurd z (by decide)) (fun z _ => h3 z ⟨q, q2, q3⟩) h⟩) (fun q3 _ _ => ⟨fun _ => s62x hc h1 (fun z _ => h2 z (fun y => q3 y.2.2)) (fun _ z => absurd rfl z) h, fun z => absurd rfl z⟩)⟩⟩⟩
end
theorem pr_split {V : St} (hI : Inv V) (k a x y : Int) : Pair V [IOOBE, IAE, ISE] (M_X6_split k a x y) (M_X7_split k a x y) := by
  have hI0 := hI
  obtain ⟨⟨n0, n10, m0, m40, hm⟩, _, _, _, _, hs0, hs1, _⟩ := hI0
  by_cases hj : (0 ≤ k ∧ k < V 2 0 ∧ V 15 k = 0) ∧ (0 ≤ a ∧ a < V 1 0)
  · obtain ⟨b1, b2, b3, b4, b5, b6⟩ := hm k hj.1.1 hj.1.2.1
    by_cases hp : (a ≠ V 11 k ∧ a ≠ V 12 k) ∧ inPt x y
    · by_cases hc : V 1 0 < 10 ∧ V 2 0 ≤ 37
      · refine ⟨0, V 1 0, updP V k a x y, Inv_P hI hc.1 hc.2 hj.1 hj.2 hp.1.1 hp.1.2 hp.2, by decide, by decide, fun S hS Qr Qx h _ => ?_, fun T hT hb Qr Qx h => ?_⟩
        · subst hS
          have e1 : S 1 4 = vw S 1 0 := rfl
          have e2 : S 2 5 = vw S 2 0 := rfl
          refine vc_X6_split fun _ _ _ _ _ => sp_X6_requireMember m40 (fun _ _ _ _ => sp_X6_requireJoint (fun _ _ _ => sp_X3_endsAt hj.1.1 (by omega) (fun z => ?_) (fun z => ?_)) (fun z => absurd hj.2 z)) (fun z => absurd hj.1 z)
          · rcases z with z | z
            · exact absurd z.symm hp.1.1
            · exact absurd z.symm hp.1.2
          · intro _ _
            refine ⟨fun _ => sp_X6_requirePoint (fun _ _ => sp_X6_requireRoomForJoint (fun _ _ => sp_X6_requireRoomForMembers (by decide) (by decide) (fun _ _ => ?_) (fun z => by omega)) (fun z => by omega)) (fun z => absurd hp.2 z), fun z => absurd rfl z⟩
            refine sv_X1_add rfl n0 hc.1 fun S1 v1 _ _ => ⟨⟨hj.1.1, by omega⟩, ?_⟩
            have v1' : vw (up S1 15 k 1) = updJ (up (vw S) 15 k 1) x y := by rw [vw_up (by decide), v1, upG_J]
            have e11 : S1 11 k = vw S 11 k := by
              have := congrFun (congrFun v1 11) k
              exact this
            rw [e11]
            refine sv_X3_add v1' m0 (by show vw S 2 0 < 40; omega) fun S2 v2 _ _ => ?_
            have e12 : S2 12 k = vw S 12 k := by
              have : S2 12 k = if k = vw S 2 0 then vw S 1 0 else vw S 12 k := congrFun (congrFun v2 12) k
              rw [this, if_neg (by omega)]
            rw [e12]
            exact sv_X3_add v2 (by show 0 ≤ vw S 2 0 + 1; omega) (by show vw S 2 0 + 1 < 40; omega) fun S3 v3 _ _ => sv_X3_add v3 (by show 0 ≤ vw S 2 0 + 1 + 1; omega) (by show vw S 2 0 + 1 + 1 < 40; omega) fun S4 v4 _ _ => sv_X5_add v4 hs0.1 (by show vw S 3 0 < 10; omega) fun S5 v5 _ => h rfl S5 v5
        · subst hT
          have e1 : T 0 1 = cs T 1 0 := rfl
          have e2 : T 0 6 = cs T 2 0 := rfl
          refine vc_X7_split fun _ _ _ _ _ => sp_X7_isMember m0 m40 (fun _ _ _ _ _ => ⟨fun z => absurd z (by decide), fun _ => sp_X7_isJoint n0 n10 (fun _ _ _ _ => ⟨fun z => absurd z (by decide), fun _ => ?_⟩) (fun z => absurd hj.2 z)⟩) (fun z => absurd hj.1 z)
          refine vc_X7_split_21 fun _ _ _ _ _ _ => ⟨fun z => absurd z (by decide), fun _ => ⟨⟨hj.1.1, by omega⟩, fun z => absurd z hp.1.1, fun _ => ⟨fun z => absurd z hp.1.2, fun _ => sp_X7_isPoint (fun _ _ _ => ⟨fun z => absurd z (by decide), fun _ => ?_⟩) (fun z => absurd hp.2 z)⟩⟩⟩
          refine vc_X7_split_62 fun _ _ _ _ _ _ _ => ⟨fun _ => ⟨fun _ => ⟨fun z => by omega, fun _ => ⟨fun _ => ?_, fun z => by omega⟩⟩, fun z => absurd z (by decide)⟩, fun z => absurd z (by decide)⟩
          refine vc_X7_split_106 fun _ _ _ _ _ _ => sp_X7_holds (fun _ _ _ => ⟨fun _ => ⟨⟨hj.1.1, by omega⟩, ?_⟩, fun z => absurd z (by decide)⟩) (fun z => absurd rfl z)
          have r0 : RS (up (cs T) 15 k 1) 0 (up (up T 0 0 0) 9 k 1) := ⟨by rw [cs_up (by decide), cs_h0], by rw [up_ne _ (by decide), up_at, if_pos rfl], Tb_k (Tb_0 hb (by decide)) (by decide)⟩
          have hnb : (3 : Int) = nb k := by unfold nb; rw [if_neg (by omega)]
          refine sv_X7_steps r0 n0 hc.1 hs0.1 (by show cs T 3 0 < 10; omega) hnb fun S1 v1 _ _ => ?_
          have e11 : S1 5 k = cs T 11 k := congrFun (congrFun v1.1 11) k
          rw [e11]
          refine sv_X7_sets v1 m0 (by show cs T 2 0 < 40; omega) fun S2 v2 _ _ => ?_
          have e12 : S2 6 k = cs T 12 k := by
            have : S2 6 k = if k = cs T 2 0 then cs T 1 0 else cs T 12 k := congrFun (congrFun v2.1 12) k
            rw [this, if_neg (by omega)]
          rw [e12]
          refine sv_X7_sets v2 (by show 0 ≤ cs T 2 0 + 1; omega) (by show cs T 2 0 + 1 < 40; omega) fun S3 v3 _ _ => sv_X7_sets v3 (by show 0 ≤ cs T 2 0 + 1 + 1; omega) (by show cs T 2 0 + 1 + 1 < 40; omega) fun S4 v4 _ _ => h S4 _ ?_ v4.2.2 v4.2.1 fun _ => rfl
          rw [v4.1]
          unfold updP
          rw [updS_M, updS_M, updS_M, updS_J]
          rfl
      · refine ⟨3, 0, V, hI, by decide, by decide, fun S hS Qr Qx _ hx => ?_, fun T hT hb Qr Qx h => ?_⟩
        · subst hS
          have e1 : S 1 4 = vw S 1 0 := rfl
          have e2 : S 2 5 = vw S 2 0 := rfl
          refine vc_X6_split fun _ _ _ _ _ => sp_X6_requireMember m40 (fun _ _ _ _ => sp_X6_requireJoint (fun _ _ _ => sp_X3_endsAt hj.1.1 (by omega) (fun z => ?_) (fun z => ?_)) (fun z => absurd hj.2 z)) (fun z => absurd hj.1 z)
          · rcases z with z | z
            · exact absurd z.symm hp.1.1
            · exact absurd z.symm hp.1.2
          · intro _ _
            exact ⟨fun _ => sp_X6_requirePoint (fun _ _ => sp_X6_requireRoomForJoint (fun _ _ => sp_X6_requireRoomForMembers (by decide) (by decide) (fun _ => by omega) (fun _ => hx (by decide) _ rfl)) (fun _ => hx (by decide) _ rfl)) (fun z => absurd hp.2 z), fun z => absurd rfl z⟩
        · subst hT
          have e1 : T 0 1 = cs T 1 0 := rfl
          have e2 : T 0 6 = cs T 2 0 := rfl
          exact vc_X7_split fun _ _ _ _ _ => sp_X7_isMember m0 m40 (fun _ _ _ _ _ => ⟨fun z => absurd z (by decide), fun _ => sp_X7_isJoint n0 n10 (fun _ _ _ _ => ⟨fun z => absurd z (by decide), fun _ => s21x (by decide) (fun _ => ⟨hj.1.1, by omega⟩) (fun z => absurd z (by decide)) (fun _ z => absurd ⟨hp.1.1, hp.1.2, hp.2⟩ z) (fun _ _ => ⟨rfl, by omega⟩) (thr_R rfl hb (by decide) h 0)⟩) (fun z => absurd hj.2 z)⟩) (fun z => absurd hj.1 z)
    · refine ⟨2, 0, V, hI, by decide, by decide, fun S hS Qr Qx _ hx => ?_, fun T hT hb Qr Qx h => ?_⟩
      · subst hS
        refine vc_X6_split fun _ _ _ _ _ => sp_X6_requireMember m40 (fun _ _ _ _ => sp_X6_requireJoint (fun _ _ _ => sp_X3_endsAt hj.1.1 (by omega) (fun z => ?_) (fun z => ?_)) (fun z => absurd hj.2 z)) (fun z => absurd hj.1 z)
        · intro _ _
          exact ⟨fun z => absurd z (by decide), fun _ => hx (by decide) _ rfl⟩
        · intro _ _
          exact ⟨fun _ => sp_X6_requirePoint (fun q => absurd ⟨⟨fun e => z (Or.inl e.symm), fun e => z (Or.inr e.symm)⟩, q⟩ hp) (fun _ => hx (by decide) _ rfl), fun z => absurd rfl z⟩
      · subst hT
        exact vc_X7_split fun _ _ _ _ _ => sp_X7_isMember m0 m40 (fun _ _ _ _ _ => ⟨fun z => absurd z (by decide), fun _ => sp_X7_isJoint n0 n10 (fun _ _ _ _ => ⟨fun z => absurd z (by decide), fun _ => s21x (by decide) (fun _ => ⟨hj.1.1, by omega⟩) (fun z => absurd z (by decide)) (fun _ _ => rfl) (fun _ z => absurd ⟨⟨z.1, z.2.1⟩, z.2.2⟩ hp) (thr_R rfl hb (by decide) h 0)⟩) (fun z => absurd hj.2 z)⟩) (fun z => absurd hj.1 z)
  · refine ⟨1, 0, V, hI, by decide, by decide, fun S hS Qr Qx _ hx => ?_, fun T hT hb Qr Qx h => ?_⟩
    · subst hS
      exact vc_X6_split fun _ _ _ _ _ => sp_X6_requireMember m40 (fun z1 z2 z5 _ => sp_X6_requireJoint (fun z3 z4 => absurd ⟨⟨z1, z2, z5⟩, z3, z4⟩ hj) (fun _ => hx (by decide) _ rfl)) (fun _ => hx (by decide) _ rfl)
    · subst hT
      have f0 : R_X7_split_21 k a x y 0 T Qr Qx := s21x (by decide) (fun z => absurd rfl z) (fun _ => rfl) (fun z => absurd rfl z) (fun z => absurd rfl z) (thr_R rfl hb (by decide) h 0)
      exact vc_X7_split fun _ _ _ _ _ => sp_X7_isMember m0 m40 (fun z1 z2 z5 _ _ => ⟨fun z => absurd z (by decide), fun _ => sp_X7_isJoint n0 n10 (fun z3 z4 => absurd ⟨⟨z1, z2, z5⟩, z3, z4⟩ hj) (fun _ _ _ => ⟨fun _ => f0, fun z => absurd rfl z⟩)⟩) (fun _ _ _ => ⟨fun _ => f0, fun z => absurd rfl z⟩)
end SPL
