/-! CALLS IN PAIRS: the small ones -/
section OP1
theorem pr_move {V : St} (hI : Inv V) (j a b : Int) : PairP V [IOOBE, IAE] (M_X6_move j a b) (fun c r V' => ((0 ≤ j ∧ j < V 1 0) ∧ inPt a b ∧ c = 0 ∧ V' = up (up V 7 j a) 8 j b) ∨ ((0 ≤ j ∧ j < V 1 0) ∧ ¬ inPt a b ∧ c = 2 ∧ V' = V) ∨ (¬ (0 ≤ j ∧ j < V 1 0) ∧ c = 1 ∧ V' = V)) := by
  have hI0 := hI
  obtain ⟨⟨n0, n10, hm⟩, ⟨_, _, hP⟩, hrest⟩ := hI0
  by_cases hj : 0 ≤ j ∧ j < V 1 0
  · by_cases hp : inPt a b
    · refine ⟨0, 0, up (up V 7 j a) 8 j b, Or.inl ⟨hj, hp, rfl, rfl⟩, ⟨⟨n0, n10, hm⟩, ⟨n0, n10, fun i i0 i1 => ?_⟩, hrest⟩, by decide, by decide, fun S hS Qr Qx h _ => ?_⟩
      · have hP' := hP i i0 i1
        unfold inPt at hp
        show -50 ≤ (if i = j then a else V 7 i) ∧ (if i = j then a else V 7 i) ≤ 50 ∧ -50 ≤ (if i = j then b else V 8 i) ∧ (if i = j then b else V 8 i) ≤ 50
        by_cases q : i = j
        · rw [if_pos q, if_pos q]; omega
        · rw [if_neg q, if_neg q]; exact hP'
      · subst hS
        refine vc_X6_move fun _ _ _ _ => sp_X6_requireJoint (fun _ _ _ => sp_X6_requirePoint (fun _ _ => ⟨⟨by omega, by omega⟩, h rfl _ ?_⟩) (fun z => absurd hp z)) (fun z => absurd hj z)
        rw [vw_up (by decide), vw_up (by decide)]
    · refine ⟨2, 0, V, Or.inr (Or.inl ⟨hj, hp, rfl, rfl⟩), hI, by decide, by decide, fun S hS Qr Qx _ hx => ?_⟩
      · subst hS
        exact vc_X6_move fun _ _ _ _ => sp_X6_requireJoint (fun _ _ _ => sp_X6_requirePoint (fun z => absurd z hp) (fun _ => hx (by decide) _ rfl)) (fun z => absurd hj z)
  · refine ⟨1, 0, V, Or.inr (Or.inr (⟨hj, rfl, rfl⟩)), hI, by decide, by decide, fun S hS Qr Qx _ hx => ?_⟩
    · subst hS
      exact vc_X6_move fun _ _ _ _ => sp_X6_requireJoint (fun z1 z2 => absurd ⟨z1, z2⟩ hj) (fun _ => hx (by decide) _ rfl)
theorem pr_pin {V : St} (hI : Inv V) (j a : Int) (ha : 0 ≤ a ∧ a ≤ 1) : PairP V [IOOBE] (M_X6_pin j a) (fun c r V' => ((0 ≤ j ∧ j < V 1 0) ∧ c = 0 ∧ r = V 9 j ∧ V' = up V 9 j a) ∨ (¬ (0 ≤ j ∧ j < V 1 0) ∧ c = 1 ∧ V' = V)) := by
  have hI0 := hI
  obtain ⟨⟨n0, n10, hm⟩, ⟨_, _, hP⟩, hrest⟩ := hI0
  by_cases hj : 0 ≤ j ∧ j < V 1 0
  · refine ⟨0, V 9 j, up V 9 j a, Or.inl ⟨hj, rfl, rfl, rfl⟩, hI, by decide, by decide, fun S hS Qr Qx h _ => ?_⟩
    · subst hS
      refine vc_X6_pin fun _ _ ho => sp_X6_requireJoint (fun _ _ _ => ⟨⟨by omega, by omega⟩, ha, ho 9 j, h rfl _ ?_⟩) (fun z => absurd hj z)
      rw [vw_up (by decide)]
  · refine ⟨1, 0, V, Or.inr (⟨hj, rfl, rfl⟩), hI, by decide, by decide, fun S hS Qr Qx _ hx => ?_⟩
    · subst hS
      exact vc_X6_pin fun _ _ _ => sp_X6_requireJoint (fun z1 z2 => absurd ⟨z1, z2⟩ hj) (fun _ => hx (by decide) _ rfl)
theorem pr_range {V : St} (hI : Inv V) (j a : Int) : PairP V [IOOBE, IAE] (M_X6_range j a) (fun c r V' => ((0 ≤ j ∧ j < V 1 0) ∧ (-1 ≤ a ∧ a ≤ 30000) ∧ c = 0 ∧ r = V 10 j ∧ V' = up V 10 j a) ∨ ((0 ≤ j ∧ j < V 1 0) ∧ ¬ (-1 ≤ a ∧ a ≤ 30000) ∧ c = 2 ∧ V' = V) ∨ (¬ (0 ≤ j ∧ j < V 1 0) ∧ c = 1 ∧ V' = V)) := by
  have hI0 := hI
  obtain ⟨⟨n0, n10, hm⟩, hP, hq, hrest⟩ := hI0
  by_cases hj : 0 ≤ j ∧ j < V 1 0
  · by_cases hp : -1 ≤ a ∧ a ≤ 30000
    · refine ⟨0, V 10 j, up V 10 j a, Or.inl ⟨hj, hp, rfl, rfl, rfl⟩, ⟨⟨n0, n10, hm⟩, hP, fun i => ?_, hrest⟩, by decide, by decide, fun S hS Qr Qx h _ => ?_⟩
      · rw [up_at]
        split
        · exact hp
        · exact hq i
      · subst hS
        have hh := h rfl (up S 10 j a) (vw_up (by decide))
        refine vc_X6_range fun _ _ _ => sp_X6_requireJoint (fun _ _ _ => ⟨fun _ => ⟨⟨by omega, by omega⟩, hh⟩, fun _ => ⟨fun z => by omega, fun _ => ⟨fun _ => ⟨⟨by omega, by omega⟩, hh⟩, fun z => by omega⟩⟩⟩) (fun z => absurd hj z)
    · refine ⟨2, 0, V, Or.inr (Or.inl ⟨hj, hp, rfl, rfl⟩), hI, by decide, by decide, fun S hS Qr Qx _ hx => ?_⟩
      · subst hS
        exact vc_X6_range fun _ _ _ => sp_X6_requireJoint (fun _ _ _ => ⟨fun z => by omega, fun _ => ⟨fun _ => hx (by decide) _ rfl, fun _ => ⟨fun z => by omega, fun _ => hx (by decide) _ rfl⟩⟩⟩) (fun z => absurd hj z)
  · refine ⟨1, 0, V, Or.inr (Or.inr (⟨hj, rfl, rfl⟩)), hI, by decide, by decide, fun S hS Qr Qx _ hx => ?_⟩
    · subst hS
      exact vc_X6_range fun _ _ _ => sp_X6_requireJoint (fun z1 z2 => absurd ⟨z1, z2⟩ hj) (fun _ => hx (by decide) _ rfl)
theorem pr_stress {V : St} (hI : Inv V) (k a : Int) : PairP V [IOOBE, IAE] (M_X6_stress k a) (fun c r V' => ((0 ≤ k ∧ k < V 2 0 ∧ V 15 k = 0) ∧ (-99 ≤ a ∧ a ≤ 99) ∧ c = 0 ∧ r = V 14 k ∧ V' = up V 14 k a) ∨ ((0 ≤ k ∧ k < V 2 0 ∧ V 15 k = 0) ∧ ¬ (-99 ≤ a ∧ a ≤ 99) ∧ c = 2 ∧ V' = V) ∨ (¬ (0 ≤ k ∧ k < V 2 0 ∧ V 15 k = 0) ∧ c = 1 ∧ V' = V)) := by
  have hI0 := hI
  obtain ⟨⟨n0, n10, m0, m40, hm⟩, hP, hq, ht, hrest⟩ := hI0
  by_cases hj : 0 ≤ k ∧ k < V 2 0 ∧ V 15 k = 0
  · by_cases hp : -99 ≤ a ∧ a ≤ 99
    · refine ⟨0, V 14 k, up V 14 k a, Or.inl ⟨hj, hp, rfl, rfl, rfl⟩, ⟨⟨n0, n10, m0, m40, hm⟩, hP, hq, fun i => ?_, hrest⟩, by decide, by decide, fun S hS Qr Qx h _ => ?_⟩
      · rw [up_at]
        split
        · exact hp
        · exact ht i
      · subst hS
        have hh := h rfl (up S 14 k a) (vw_up (by decide))
        refine vc_X6_stress fun _ _ _ => sp_X6_requireMember m40 (fun _ _ _ _ => ⟨fun z => by omega, fun _ => ⟨fun _ => ⟨⟨by omega, by omega⟩, hh⟩, fun z => by omega⟩⟩) (fun z => absurd hj z)
    · refine ⟨2, 0, V, Or.inr (Or.inl ⟨hj, hp, rfl, rfl⟩), hI, by decide, by decide, fun S hS Qr Qx _ hx => ?_⟩
      · subst hS
        exact vc_X6_stress fun _ _ _ => sp_X6_requireMember m40 (fun _ _ _ _ => ⟨fun _ => hx (by decide) _ rfl, fun _ => ⟨fun z => by omega, fun _ => hx (by decide) _ rfl⟩⟩) (fun z => absurd hj z)
  · refine ⟨1, 0, V, Or.inr (Or.inr (⟨hj, rfl, rfl⟩)), hI, by decide, by decide, fun S hS Qr Qx _ hx => ?_⟩
    · subst hS
      exact vc_X6_stress fun _ _ _ => sp_X6_requireMember m40 (fun z1 z2 z3 => absurd ⟨z1, z2, z3⟩ hj) (fun _ => hx (by decide) _ rfl)
theorem Inv_gone {V : St} {k : Int} (hI : Inv V) : Inv (up V 15 k 1) := by
  obtain ⟨⟨n0, n10, m0, m40, hm⟩, hP, hq, ht, hu, hs⟩ := hI
  have e : ∀ i, up V 15 k 1 15 i = 0 → V 15 i = 0 := fun i z => by
    rw [up_at] at z
    by_cases q : i = k
    · rw [if_pos q] at z; exact absurd z (by decide)
    · rw [if_neg q] at z; exact z
  refine ⟨⟨n0, n10, m0, m40, fun i i0 i1 => ?_⟩, hP, hq, ht, fun i j i0 ij j1 z1 z2 => hu i j i0 ij j1 (e i z1) (e j z2), hs⟩
  obtain ⟨a1, a2, a3, a4, a5, a6⟩ := hm i i0 i1
  exact ⟨a1, a2, a3, a4, a5, fun z => a6 (e i z)⟩
theorem pr_remove {V : St} (hI : Inv V) (k : Int) : PairP V [IOOBE] (M_X6_remove k) (fun c r V' => ((0 ≤ k ∧ k < V 2 0 ∧ V 15 k = 0) ∧ c = 0 ∧ r = cn (mThere (up V 15 k 1)) (V 2 0) ∧ V' = up V 15 k 1) ∨ (¬ (0 ≤ k ∧ k < V 2 0 ∧ V 15 k = 0) ∧ c = 1 ∧ V' = V)) := by
  have hI0 := hI
  obtain ⟨⟨n0, n10, m0, m40, hm⟩, hP, hq, ht, hrest⟩ := hI0
  by_cases hj : 0 ≤ k ∧ k < V 2 0 ∧ V 15 k = 0
  · refine ⟨0, cn (mThere (up V 15 k 1)) (V 2 0), up V 15 k 1, Or.inl ⟨hj, rfl, rfl, rfl⟩, Inv_gone hI, by decide, by decide, fun S hS Qr Qx h _ => ?_⟩
    · subst hS
      have e : vw (up S 15 k 1) = up (vw S) 15 k 1 := vw_up (by decide)
      have hh := h rfl (up S 15 k 1) e
      refine vc_X6_remove fun _ _ => sp_X6_requireMember m40 (fun _ _ _ _ => ⟨⟨by omega, by omega⟩, sp_X3_present (by rw [up_ne _ (by decide)]; exact m0) (by rw [up_ne _ (by decide)]; exact m40) fun _ _ => ?_⟩) (fun z => absurd hj z)
      rw [← e] at hh
      rw [up_ne _ (by decide)]
      exact hh
  · refine ⟨1, 0, V, Or.inr (⟨hj, rfl, rfl⟩), hI, by decide, by decide, fun S hS Qr Qx _ hx => ?_⟩
    · subst hS
      exact vc_X6_remove fun _ _ => sp_X6_requireMember m40 (fun z1 z2 z3 => absurd ⟨z1, z2, z3⟩ hj) (fun _ => hx (by decide) _ rfl)
/-- a member is added -/
def updM (V : St) (a b t : Int) : St := upc (up (up (up V 11 (V 2 0) a) 12 (V 2 0) b) 13 (V 2 0) t) 2 (V 2 0 + 1)
theorem Inv_M {V : St} {a b t : Int} (hI : Inv V) (hm : V 2 0 < 40) (ha : 0 ≤ a ∧ a < V 1 0) (hb : 0 ≤ b ∧ b < V 1 0) (hab : a ≠ b) (hno : ∀ k, 0 ≤ k → k < V 2 0 → V 15 k = 0 → ¬ ((V 11 k = a ∧ V 12 k = b) ∨ (V 11 k = b ∧ V 12 k = a))) : Inv (updM V a b t) := by
  obtain ⟨⟨n0, n10, m0, m40, hE⟩, hP, hq, ht, hu, hs0, hs1, hs2, hs3, hs4⟩ := hI
  have e11 : ∀ k, updM V a b t 11 k = if k = V 2 0 then a else V 11 k := fun k => rfl
  have e12 : ∀ k, updM V a b t 12 k = if k = V 2 0 then b else V 12 k := fun k => rfl
  have eo : ∀ k, k < V 2 0 → updM V a b t 11 k = V 11 k ∧ updM V a b t 12 k = V 12 k := fun k q => by
    rw [e11, e12, if_neg (by omega), if_neg (by omega)]; exact ⟨rfl, rfl⟩
  have em : updM V a b t 2 0 = V 2 0 + 1 := rfl
  refine ⟨⟨n0, n10, by rw [em]; omega, by rw [em]; omega, fun k k0 k1 => ?_⟩, hP, hq, ht, fun i j i0 ij j1 z1 z2 z => ?_, hs0, hs1, hs2, fun s s0 s1 => ?_, fun s s0 s1 => ?_⟩
  · rw [em] at k1
    show 0 ≤ updM V a b t 11 k ∧ _
    by_cases q : k = V 2 0
    · rw [e11, e12, if_pos q, if_pos q]
      exact ⟨ha.1, by omega, hb.1, by omega, hab, fun _ => ⟨ha.2, hb.2⟩⟩
    · rw [e11, e12, if_neg q, if_neg q]
      exact hE k k0 (by omega)
  · rw [em] at j1
    obtain ⟨o1, o2⟩ := eo i (by omega)
    unfold same at z
    rw [o1, o2, e11, e12] at z
    by_cases q : j = V 2 0
    · rw [if_pos q, if_pos q] at z
      exact hno i i0 (by omega) z1 z
    · rw [if_neg q, if_neg q] at z
      exact hu i j i0 ij (by omega) z1 z2 z
  · obtain ⟨c1, c2, c3⟩ := hs3 s s0 s1
    refine ⟨c1, by rw [em]; show V 17 s + nb (V 18 s) ≤ V 2 0 + 1; omega, fun i i0 i1 => ?_⟩
    have i1' : i < nb (V 18 s) := i1
    show updM V a b t 12 (V 17 s + i) = V 16 s
    rw [(eo _ (by omega)).2]
    exact c3 i i0 i1
  · rcases hs4 s s0 s1 with c | ⟨c1, c2, c3, c4⟩
    · exact Or.inl c
    · obtain ⟨o1, o2⟩ := eo (V 18 s) c2
      exact Or.inr ⟨c1, by rw [em]; show V 18 s < V 2 0 + 1; omega, by show updM V a b t 11 (V 18 s) < V 16 s; rw [o1]; exact c3, by show updM V a b t 12 (V 18 s) < V 16 s; rw [o2]; exact c4⟩
theorem mJ_iff {V : St} {a b k : Int} (hab : a ≠ b) : mJoin V a b k ↔ mPair V a b k := by
  unfold mJoin mPair
  refine ⟨fun h => ⟨h.1, ?_⟩, fun h => ⟨h.1, ?_⟩⟩
  · have := h.2; omega
  · have := h.2; omega
section
variable {T : St} {Qr : Int → St → Prop} {Qx : String → St → Prop}
end
theorem pr_member {V : St} (hI : Inv V) (a b t : Int) : PairP V [IOOBE, IAE, ISE] (M_X6_member a b t) (fun c r V' => (((0 ≤ a ∧ a < V 1 0) ∧ (0 ≤ b ∧ b < V 1 0)) ∧ (a ≠ b ∧ 0 ≤ t ∧ t ≤ 2) ∧ ((∀ k, 0 ≤ k → k < V 2 0 → ¬ mPair V a b k) ∧ V 2 0 < 40) ∧ c = 0 ∧ r = V 2 0 ∧ V' = updM V a b t) ∨ (((0 ≤ a ∧ a < V 1 0) ∧ (0 ≤ b ∧ b < V 1 0)) ∧ (a ≠ b ∧ 0 ≤ t ∧ t ≤ 2) ∧ ¬ ((∀ k, 0 ≤ k → k < V 2 0 → ¬ mPair V a b k) ∧ V 2 0 < 40) ∧ c = 3 ∧ V' = V) ∨ (((0 ≤ a ∧ a < V 1 0) ∧ (0 ≤ b ∧ b < V 1 0)) ∧ ¬ (a ≠ b ∧ 0 ≤ t ∧ t ≤ 2) ∧ c = 2 ∧ V' = V) ∨ (¬ ((0 ≤ a ∧ a < V 1 0) ∧ (0 ≤ b ∧ b < V 1 0)) ∧ c = 1 ∧ V' = V)) := by
  have hI0 := hI
  obtain ⟨⟨n0, n10, m0, m40, hm⟩, hP, hq, ht, hrest⟩ := hI0
  by_cases hj : (0 ≤ a ∧ a < V 1 0) ∧ (0 ≤ b ∧ b < V 1 0)
  · by_cases hp : a ≠ b ∧ 0 ≤ t ∧ t ≤ 2
    · by_cases hc : (∀ k, 0 ≤ k → k < V 2 0 → ¬ mPair V a b k) ∧ V 2 0 < 40
      · refine ⟨0, V 2 0, updM V a b t, Or.inl ⟨hj, hp, hc, rfl, rfl, rfl⟩, Inv_M hI hc.2 hj.1 hj.2 hp.1 (fun k k0 k1 z1 z2 => hc.1 k k0 k1 ⟨z1, z2⟩), by decide, by decide, fun S hS Qr Qx h _ => ?_⟩
        · subst hS
          refine vc_X6_member fun _ _ _ _ => sp_X6_requireJoint (fun _ _ _ => sp_X6_requireJoint (fun _ _ _ => sp_X6_requireTwo (fun _ _ => ⟨fun z => by omega, fun _ => ⟨fun _ => sp_X3_join m0 m40 (fun k k0 k1 z => absurd ((mJ_iff hp.1).1 z) (hc.1 k k0 k1)) (fun _ _ _ => ⟨fun _ => sp_X6_requireRoomForMembers (by decide) (by decide) (fun _ _ => sp_X3_add m0 hc.2 fun _ _ => h rfl _ ?_) (fun z => by have : S 2 5 < 40 := hc.2; omega), fun z => absurd rfl z⟩), fun z => by omega⟩⟩) (fun z => absurd z hp.1)) (fun z => absurd hj.2 z)) (fun z => absurd hj.1 z)
          rw [vw_up2, vw_up (by decide), vw_up (by decide), vw_up (by decide)]
          rfl
      · refine ⟨3, 0, V, Or.inr (Or.inl ⟨hj, hp, hc, rfl, rfl⟩), hI, by decide, by decide, fun S hS Qr Qx _ hx => ?_⟩
        · subst hS
          refine vc_X6_member fun _ _ _ _ => sp_X6_requireJoint (fun _ _ _ => sp_X6_requireJoint (fun _ _ _ => sp_X6_requireTwo (fun _ _ => ⟨fun z => by omega, fun _ => ⟨fun _ => sp_X3_join m0 m40 (fun k k0 k1 z _ _ => ⟨fun z2 => absurd z2 (by decide), fun _ => hx (by decide) _ rfl⟩) (fun hno _ _ => ⟨fun _ => sp_X6_requireRoomForMembers (by decide) (by decide) (fun z => absurd ⟨fun k k0 k1 zz => hno k k0 k1 ((mJ_iff hp.1).2 zz), by show S 2 5 < 40; omega⟩ hc) (fun _ => hx (by decide) _ rfl), fun z => absurd rfl z⟩), fun z => by omega⟩⟩) (fun z => absurd z hp.1)) (fun z => absurd hj.2 z)) (fun z => absurd hj.1 z)
    · refine ⟨2, 0, V, Or.inr (Or.inr (Or.inl ⟨hj, hp, rfl, rfl⟩)), hI, by decide, by decide, fun S hS Qr Qx _ hx => ?_⟩
      · subst hS
        exact vc_X6_member fun _ _ _ _ => sp_X6_requireJoint (fun _ _ _ => sp_X6_requireJoint (fun _ _ _ => sp_X6_requireTwo (fun q _ => ⟨fun _ => hx (by decide) _ rfl, fun q2 => ⟨fun q3 => absurd ⟨q, q2, q3⟩ hp, fun _ => hx (by decide) _ rfl⟩⟩) (fun _ => hx (by decide) _ rfl)) (fun z => absurd hj.2 z)) (fun z => absurd hj.1 z)
  · refine ⟨1, 0, V, Or.inr (Or.inr (Or.inr (⟨hj, rfl, rfl⟩))), hI, by decide, by decide, fun S hS Qr Qx _ hx => ?_⟩
    · subst hS
      exact vc_X6_member fun _ _ _ _ => sp_X6_requireJoint (fun z1 z2 _ => sp_X6_requireJoint (fun z3 z4 => absurd ⟨⟨z1, z2⟩, z3, z4⟩ hj) (fun _ => hx (by decide) _ rfl)) (fun _ => hx (by decide) _ rfl)
end OP1
