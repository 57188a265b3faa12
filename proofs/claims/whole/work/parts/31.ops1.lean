/-! CALLS IN PAIRS: the small ones -/
section OP1
theorem pr_move {V : St} (hI : Inv V) (j a b : Int) : Pair V [IOOBE, IAE] (M_X6_move j a b) (M_X7_move j a b) := by
  have hI0 := hI
  obtain ⟨⟨n0, n10, hm⟩, ⟨_, _, hP⟩, hrest⟩ := hI0
  by_cases hj : 0 ≤ j ∧ j < V 1 0
  · by_cases hp : inPt a b
    · refine ⟨0, 0, up (up V 7 j a) 8 j b, ⟨⟨n0, n10, hm⟩, ⟨n0, n10, fun i i0 i1 => ?_⟩, hrest⟩, by decide, by decide, fun S hS Qr Qx h _ => ?_, fun T hT hb Qr Qx h => ?_⟩
      · have hP' := hP i i0 i1
        unfold inPt at hp
        show -50 ≤ (if i = j then a else V 7 i) ∧ (if i = j then a else V 7 i) ≤ 50 ∧ -50 ≤ (if i = j then b else V 8 i) ∧ (if i = j then b else V 8 i) ≤ 50
        by_cases q : i = j
        · rw [if_pos q, if_pos q]; omega
        · rw [if_neg q, if_neg q]; exact hP'
      · subst hS
        refine vc_X6_move fun _ _ _ _ => sp_X6_requireJoint (fun _ _ _ => sp_X6_requirePoint (fun _ _ => ⟨⟨by omega, by omega⟩, h rfl _ ?_⟩) (fun z => absurd hp z)) (fun z => absurd hj z)
        rw [vw_up (by decide), vw_up (by decide)]
      · subst hT
        refine vc_X7_move fun _ _ _ _ => sp_X7_isJoint n0 n10 (fun _ _ _ _ => ⟨fun _ => sp_X7_isPoint (fun _ _ _ => ⟨fun z => absurd z (by decide), fun _ => sp_X7_holds (fun _ _ _ => ⟨fun z => absurd z (by decide), fun _ => ⟨⟨by omega, by omega⟩, h _ _ ?_ (Tb_k (Tb_k (Tb_0 hb (by decide)) (by decide)) (by decide)) ?_ fun _ => rfl⟩⟩) (fun z => absurd rfl z)⟩) (fun z => absurd hp z), fun z => absurd z (by decide)⟩) (fun z => absurd hj z)
        · rw [cs_up (by decide), cs_up (by decide), cs_h0]
        · rw [up_ne _ (by decide), up_ne _ (by decide), up_at, if_pos rfl]
    · refine ⟨2, 0, V, hI, by decide, by decide, fun S hS Qr Qx _ hx => ?_, fun T hT hb Qr Qx h => ?_⟩
      · subst hS
        exact vc_X6_move fun _ _ _ _ => sp_X6_requireJoint (fun _ _ _ => sp_X6_requirePoint (fun z => absurd z hp) (fun _ => hx (by decide) _ rfl)) (fun z => absurd hj z)
      · subst hT
        exact vc_X7_move fun _ _ _ _ => sp_X7_isJoint n0 n10 (fun _ _ _ _ => ⟨fun _ => sp_X7_isPoint (fun z => absurd z hp) (fun _ _ _ => ⟨fun _ => sp_X7_holds (fun z => absurd z (by decide)) (fun _ _ _ => ⟨fun _ => thr_R rfl hb (by decide) h 0, fun z => absurd rfl z⟩), fun z => absurd rfl z⟩), fun z => absurd z (by decide)⟩) (fun z => absurd hj z)
  · refine ⟨1, 0, V, hI, by decide, by decide, fun S hS Qr Qx _ hx => ?_, fun T hT hb Qr Qx h => ?_⟩
    · subst hS
      exact vc_X6_move fun _ _ _ _ => sp_X6_requireJoint (fun z1 z2 => absurd ⟨z1, z2⟩ hj) (fun _ => hx (by decide) _ rfl)
    · subst hT
      exact vc_X7_move fun _ _ _ _ => sp_X7_isJoint n0 n10 (fun z1 z2 => absurd ⟨z1, z2⟩ hj) (fun _ _ _ => ⟨fun z => absurd rfl z, fun _ => sp_X7_holds (fun z => absurd z (by decide)) (fun _ _ _ => ⟨fun _ => thr_R rfl hb (by decide) h 0, fun z => absurd rfl z⟩)⟩)
theorem pr_pin {V : St} (hI : Inv V) (j a : Int) (ha : 0 ≤ a ∧ a ≤ 1) : Pair V [IOOBE] (M_X6_pin j a) (M_X7_pin j a) := by
  have hI0 := hI
  obtain ⟨⟨n0, n10, hm⟩, ⟨_, _, hP⟩, hrest⟩ := hI0
  by_cases hj : 0 ≤ j ∧ j < V 1 0
  · refine ⟨0, V 9 j, up V 9 j a, hI, by decide, by decide, fun S hS Qr Qx h _ => ?_, fun T hT hb Qr Qx h => ?_⟩
    · subst hS
      refine vc_X6_pin fun _ _ ho => sp_X6_requireJoint (fun _ _ _ => ⟨⟨by omega, by omega⟩, ha, ho 9 j, h rfl _ ?_⟩) (fun z => absurd hj z)
      rw [vw_up (by decide)]
    · subst hT
      refine vc_X7_pin fun _ _ ho => sp_X7_isJoint n0 n10 (fun _ _ _ _ => ⟨fun z => absurd z (by decide), fun _ => sp_X7_holds (fun _ _ _ => ⟨fun _ => ⟨⟨by omega, by omega⟩, ha, ?_, h _ _ ?_ (Tb_k (Tb_0 hb (by decide)) (by decide)) ?_ fun _ => ?_⟩, fun z => absurd z (by decide)⟩) (fun z => absurd rfl z)⟩) (fun z => absurd hj z)
      · rw [up_ne _ (by decide)]; exact ho 3 j
      · rw [cs_up (by decide), cs_h0]
      · rw [up_ne _ (by decide), up_at, if_pos rfl]
      · rw [up_ne _ (by decide)]; rfl
  · refine ⟨1, 0, V, hI, by decide, by decide, fun S hS Qr Qx _ hx => ?_, fun T hT hb Qr Qx h => ?_⟩
    · subst hS
      exact vc_X6_pin fun _ _ _ => sp_X6_requireJoint (fun z1 z2 => absurd ⟨z1, z2⟩ hj) (fun _ => hx (by decide) _ rfl)
    · subst hT
      exact vc_X7_pin fun _ _ _ => sp_X7_isJoint n0 n10 (fun z1 z2 => absurd ⟨z1, z2⟩ hj) (fun _ _ _ => ⟨fun _ => sp_X7_holds (fun z => absurd z (by decide)) (fun _ _ _ => ⟨fun z => absurd rfl z, fun _ => thr_R rfl hb (by decide) h 0⟩), fun z => absurd rfl z⟩)
theorem pr_range {V : St} (hI : Inv V) (j a : Int) : Pair V [IOOBE, IAE] (M_X6_range j a) (M_X7_range j a) := by
  have hI0 := hI
  obtain ⟨⟨n0, n10, hm⟩, hP, hq, hrest⟩ := hI0
  by_cases hj : 0 ≤ j ∧ j < V 1 0
  · by_cases hp : -1 ≤ a ∧ a ≤ 30000
    · refine ⟨0, V 10 j, up V 10 j a, ⟨⟨n0, n10, hm⟩, hP, fun i => ?_, hrest⟩, by decide, by decide, fun S hS Qr Qx h _ => ?_, fun T hT hb Qr Qx h => ?_⟩
      · rw [up_at]
        split
        · exact hp
        · exact hq i
      · subst hS
        have hh := h rfl (up S 10 j a) (vw_up (by decide))
        refine vc_X6_range fun _ _ _ => sp_X6_requireJoint (fun _ _ _ => ⟨fun _ => ⟨⟨by omega, by omega⟩, hh⟩, fun _ => ⟨fun z => by omega, fun _ => ⟨fun _ => ⟨⟨by omega, by omega⟩, hh⟩, fun z => by omega⟩⟩⟩) (fun z => absurd hj z)
      · subst hT
        refine vc_X7_range fun _ _ _ => sp_X7_isJoint n0 n10 (fun _ _ _ _ => ⟨fun _ => sp_X7_isIn (fun _ _ _ _ => ⟨fun z => absurd z (by decide), fun _ => sp_X7_holds (fun _ _ _ => ⟨fun _ => ⟨⟨by omega, by omega⟩, h _ _ ?_ (Tb_k (Tb_0 hb (by decide)) (by decide)) ?_ fun _ => ?_⟩, fun z => absurd z (by decide)⟩) (fun z => absurd rfl z)⟩) (fun z => absurd hp z), fun z => absurd z (by decide)⟩) (fun z => absurd hj z)
        · rw [cs_up (by decide), cs_h0]
        · rw [up_ne _ (by decide), up_at, if_pos rfl]
        · rw [up_ne _ (by decide)]; rfl
    · refine ⟨2, 0, V, hI, by decide, by decide, fun S hS Qr Qx _ hx => ?_, fun T hT hb Qr Qx h => ?_⟩
      · subst hS
        exact vc_X6_range fun _ _ _ => sp_X6_requireJoint (fun _ _ _ => ⟨fun z => by omega, fun _ => ⟨fun _ => hx (by decide) _ rfl, fun _ => ⟨fun z => by omega, fun _ => hx (by decide) _ rfl⟩⟩⟩) (fun z => absurd hj z)
      · subst hT
        exact vc_X7_range fun _ _ _ => sp_X7_isJoint n0 n10 (fun _ _ _ _ => ⟨fun _ => sp_X7_isIn (fun z1 z2 => absurd ⟨z1, z2⟩ hp) (fun _ _ _ => ⟨fun _ => sp_X7_holds (fun z => absurd z (by decide)) (fun _ _ _ => ⟨fun z => absurd rfl z, fun _ => thr_R rfl hb (by decide) h 0⟩), fun z => absurd rfl z⟩), fun z => absurd z (by decide)⟩) (fun z => absurd hj z)
  · refine ⟨1, 0, V, hI, by decide, by decide, fun S hS Qr Qx _ hx => ?_, fun T hT hb Qr Qx h => ?_⟩
    · subst hS
      exact vc_X6_range fun _ _ _ => sp_X6_requireJoint (fun z1 z2 => absurd ⟨z1, z2⟩ hj) (fun _ => hx (by decide) _ rfl)
    · subst hT
      exact vc_X7_range fun _ _ _ => sp_X7_isJoint n0 n10 (fun z1 z2 => absurd ⟨z1, z2⟩ hj) (fun _ _ _ => ⟨fun z => absurd rfl z, fun _ => sp_X7_holds (fun z => absurd z (by decide)) (fun _ _ _ => ⟨fun z => absurd rfl z, fun _ => thr_R rfl hb (by decide) h 0⟩)⟩)
theorem pr_stress {V : St} (hI : Inv V) (k a : Int) : Pair V [IOOBE, IAE] (M_X6_stress k a) (M_X7_stress k a) := by
  have hI0 := hI
  obtain ⟨⟨n0, n10, m0, m40, hm⟩, hP, hq, ht, hrest⟩ := hI0
  by_cases hj : 0 ≤ k ∧ k < V 2 0 ∧ V 15 k = 0
  · by_cases hp : -99 ≤ a ∧ a ≤ 99
    · refine ⟨0, V 14 k, up V 14 k a, ⟨⟨n0, n10, m0, m40, hm⟩, hP, hq, fun i => ?_, hrest⟩, by decide, by decide, fun S hS Qr Qx h _ => ?_, fun T hT hb Qr Qx h => ?_⟩
      · rw [up_at]
        split
        · exact hp
        · exact ht i
      · subst hS
        have hh := h rfl (up S 14 k a) (vw_up (by decide))
        refine vc_X6_stress fun _ _ _ => sp_X6_requireMember m40 (fun _ _ _ _ => ⟨fun z => by omega, fun _ => ⟨fun _ => ⟨⟨by omega, by omega⟩, hh⟩, fun z => by omega⟩⟩) (fun z => absurd hj z)
      · subst hT
        refine vc_X7_stress fun _ _ _ => sp_X7_isMember m0 m40 (fun _ _ _ _ _ => ⟨fun _ => sp_X7_isIn (fun _ _ _ _ => ⟨fun z => absurd z (by decide), fun _ => sp_X7_holds (fun _ _ _ => ⟨fun _ => ⟨⟨by omega, by omega⟩, h _ _ ?_ (Tb_k (Tb_0 hb (by decide)) (by decide)) ?_ fun _ => ?_⟩, fun z => absurd z (by decide)⟩) (fun z => absurd rfl z)⟩) (fun z => absurd hp z), fun z => absurd z (by decide)⟩) (fun z => absurd hj z)
        · rw [cs_up (by decide), cs_h0]
        · rw [up_ne _ (by decide), up_at, if_pos rfl]
        · rw [up_ne _ (by decide)]; rfl
    · refine ⟨2, 0, V, hI, by decide, by decide, fun S hS Qr Qx _ hx => ?_, fun T hT hb Qr Qx h => ?_⟩
      · subst hS
        exact vc_X6_stress fun _ _ _ => sp_X6_requireMember m40 (fun _ _ _ _ => ⟨fun _ => hx (by decide) _ rfl, fun _ => ⟨fun z => by omega, fun _ => hx (by decide) _ rfl⟩⟩) (fun z => absurd hj z)
      · subst hT
        exact vc_X7_stress fun _ _ _ => sp_X7_isMember m0 m40 (fun _ _ _ _ _ => ⟨fun _ => sp_X7_isIn (fun z1 z2 => absurd ⟨z1, z2⟩ hp) (fun _ _ _ => ⟨fun _ => sp_X7_holds (fun z => absurd z (by decide)) (fun _ _ _ => ⟨fun z => absurd rfl z, fun _ => thr_R rfl hb (by decide) h 0⟩), fun z => absurd rfl z⟩), fun z => absurd z (by decide)⟩) (fun z => absurd hj z)
  · refine ⟨1, 0, V, hI, by decide, by decide, fun S hS Qr Qx _ hx => ?_, fun T hT hb Qr Qx h => ?_⟩
    · subst hS
      exact vc_X6_stress fun _ _ _ => sp_X6_requireMember m40 (fun z1 z2 z3 => absurd ⟨z1, z2, z3⟩ hj) (fun _ => hx (by decide) _ rfl)
    · subst hT
      exact vc_X7_stress fun _ _ _ => sp_X7_isMember m0 m40 (fun z1 z2 z3 => absurd ⟨z1, z2, z3⟩ hj) (fun _ _ _ => ⟨fun z => absurd rfl z, fun _ => sp_X7_holds (fun z => absurd z (by decide)) (fun _ _ _ => ⟨fun z => absurd rfl z, fun _ => thr_R rfl hb (by decide) h 0⟩)⟩)
theorem Inv_gone {V : St} {k : Int} (hI : Inv V) : Inv (up V 15 k 1) := by
  obtain ⟨⟨n0, n10, m0, m40, hm⟩, hP, hq, ht, hu, hs⟩ := hI
  have e : ∀ i, up V 15 k 1 15 i = 0 → V 15 i = 0 := fun i z => by
    rw [up_at] at z
    by_cases q : i = k
    · rw [if_pos q] at z; exact absurd z (by decide)
    · rw [if_neg q] at z; exact z
  refine ⟨⟨n0, n10, m0, m40, fun i i0 i1 => ?_⟩, hP, hq, ht, fun i j i0 ij j1 z1 z2 => hu i j i0 ij j1 (e i z1) (e j z2), hs⟩
  obtain ⟨a1, a2, a3, a4, a5, a6⟩ := hm i i0 i1
  exact ⟨a1, a2, a3, a4, a5, fun z => a6 (e i z)⟩
theorem pr_remove {V : St} (hI : Inv V) (k : Int) : Pair V [IOOBE] (M_X6_remove k) (M_X7_remove k) := by
  have hI0 := hI
  obtain ⟨⟨n0, n10, m0, m40, hm⟩, hP, hq, ht, hrest⟩ := hI0
  by_cases hj : 0 ≤ k ∧ k < V 2 0 ∧ V 15 k = 0
  · refine ⟨0, cn (mThere (up V 15 k 1)) (V 2 0), up V 15 k 1, Inv_gone hI, by decide, by decide, fun S hS Qr Qx h _ => ?_, fun T hT hb Qr Qx h => ?_⟩
    · subst hS
      have e : vw (up S 15 k 1) = up (vw S) 15 k 1 := vw_up (by decide)
      have hh := h rfl (up S 15 k 1) e
      refine vc_X6_remove fun _ _ => sp_X6_requireMember m40 (fun _ _ _ _ => ⟨⟨by omega, by omega⟩, sp_X3_present (by rw [up_ne _ (by decide)]; exact m0) (by rw [up_ne _ (by decide)]; exact m40) fun _ _ => ?_⟩) (fun z => absurd hj z)
      rw [← e] at hh
      rw [up_ne _ (by decide)]
      exact hh
    · subst hT
      have e : cs (up (up T 0 0 0) 9 k 1) = up (cs T) 15 k 1 := by rw [cs_up (by decide), cs_h0]
      have hh := fun r' => h (up (up T 0 0 0) 9 k 1) r' e (Tb_k (Tb_0 hb (by decide)) (by decide)) (by rw [up_ne _ (by decide), up_at, if_pos rfl])
      have e2 : up (up T 0 0 0) 9 k 1 0 6 = cs T 2 0 := by rw [up_ne _ (by decide), up_at, if_neg (by decide)]; rfl
      refine vc_X7_remove fun _ _ => sp_X7_isMember m0 m40 (fun _ _ _ _ _ => ⟨fun z => absurd z (by decide), fun _ => sp_X7_holds (fun _ _ _ => ⟨fun _ => ⟨⟨by omega, by omega⟩, sp_X7_many (by rw [e2]; exact m0) (by rw [e2]; exact m40) fun _ _ => hh _ fun _ => ?_⟩, fun z => absurd z (by decide)⟩) (fun z => absurd rfl z)⟩) (fun z => absurd hj z)
      rw [e, e2]
  · refine ⟨1, 0, V, hI, by decide, by decide, fun S hS Qr Qx _ hx => ?_, fun T hT hb Qr Qx h => ?_⟩
    · subst hS
      exact vc_X6_remove fun _ _ => sp_X6_requireMember m40 (fun z1 z2 z3 => absurd ⟨z1, z2, z3⟩ hj) (fun _ => hx (by decide) _ rfl)
    · subst hT
      exact vc_X7_remove fun _ _ => sp_X7_isMember m0 m40 (fun z1 z2 z3 => absurd ⟨z1, z2, z3⟩ hj) (fun _ _ _ => ⟨fun _ => sp_X7_holds (fun z => absurd z (by decide)) (fun _ _ _ => ⟨fun z => absurd rfl z, fun _ => thr_R rfl hb (by decide) h 0⟩), fun z => absurd rfl z⟩)
/-- a member is added -/
def updM (V : St) (a b t : Int) : St := upc (up (up (up V 11 (V 2 0) a) 12 (V 2 0) b) 13 (V 2 0) t) 2 (V 2 0 + 1)
theorem Inv_M {V : St} {a b t : Int} (hI : Inv V) (hm : V 2 0 < 40) (ha : 0 ≤ a ∧ a < V 1 0) (hb : 0 ≤ b ∧ b < V 1 0) (hab : a ≠ b) (hno : ∀ k, 0 ≤ k → k < V 2 0 → V 15 k = 0 → ¬ ((V 11 k = a ∧ V 12 k = b) ∨ (V 11 k = b ∧ V 12 k = a))) : Inv (updM V a b t) := by
  obtain ⟨⟨n0, n10, m0, m40, hE⟩, hP, hq, ht, hu, hs0, hs1, hs2, hs3, hs4⟩ := hI
  have e11 : ∀ k, updM V a b t 11 k = if k = V 2 0 then a else V 11 k := fun k => rfl
  have e12 : ∀ k, updM V a b t 12 k = if k = V 2 0 then b else V 12 k := fun k => rfl
  have eo : ∀ k, k < V 2 0 → updM V a b t 11 k = V 11 k ∧ updM V a b t 12 k = V 12 k := fun k q => by
    rw [e11, e12, if_neg (by omega), if_neg (by omega)]; exact ⟨rfl, rfl⟩
  have em : updM V a b t 2 0 = V 2 0 + 1 := rfl
  refine ⟨⟨n0, n10, by rw [em]; omega, by rw [em]; omega, fun k k0 k1 => ?_⟩, hP, hq, ht, fun i j i0 ij j1 z1 z2 z => ?_, hs0, hs1, hs2, fun s s0 s1 => ?_, fun s s0 s1 => ?_⟩
  · rw [em] at k1
    show 0 ≤ updM V a b t 11 k ∧ _
    by_cases q : k = V 2 0
    · rw [e11, e12, if_pos q, if_pos q]
      exact ⟨ha.1, by omega, hb.1, by omega, hab, fun _ => ⟨ha.2, hb.2⟩⟩
    · rw [e11, e12, if_neg q, if_neg q]
      exact hE k k0 (by omega)
  · rw [em] at j1
    obtain ⟨o1, o2⟩ := eo i (by omega)
    unfold same at z
    rw [o1, o2, e11, e12] at z
    by_cases q : j = V 2 0
    · rw [if_pos q, if_pos q] at z
      exact hno i i0 (by omega) z1 z
    · rw [if_neg q, if_neg q] at z
      exact hu i j i0 ij (by omega) z1 z2 z
  · obtain ⟨c1, c2, c3⟩ := hs3 s s0 s1
    refine ⟨c1, by rw [em]; show V 17 s + nb (V 18 s) ≤ V 2 0 + 1; omega, fun i i0 i1 => ?_⟩
    have i1' : i < nb (V 18 s) := i1
    show updM V a b t 12 (V 17 s + i) = V 16 s
    rw [(eo _ (by omega)).2]
    exact c3 i i0 i1
  · rcases hs4 s s0 s1 with c | ⟨c1, c2, c3, c4⟩
    · exact Or.inl c
    · obtain ⟨o1, o2⟩ := eo (V 18 s) c2
      exact Or.inr ⟨c1, by rw [em]; show V 18 s < V 2 0 + 1; omega, by show updM V a b t 11 (V 18 s) < V 16 s; rw [o1]; exact c3, by show updM V a b t 12 (V 18 s) < V 16 s; rw [o2]; exact c4⟩
theorem mJ_iff {V : St} {a b k : Int} (hab : a ≠ b) : mJoin V a b k ↔ mPair V a b k := by
  unfold mJoin mPair
  refine ⟨fun h => ⟨h.1, ?_⟩, fun h => ⟨h.1, ?_⟩⟩
  · have := h.2; omega
  · have := h.2; omega
section
variable {T : St} {Qr : Int → St → Prop} {Qx : String → St → Prop}
theorem m73 {x1 x2 x3 x4 x5 s0 c : Int} (hc : c ≠ 0) (h1 : x4 = 0 → c = 1) (h2 : x4 ≠ 0 → x5 = 0 → c = 2) (h3 : x4 ≠ 0 → x5 ≠ 0 → s0 = 0 ∧ c = 3) (h : Qr 0 (up T 0 0 c)) : R_X7_member_73 x1 x2 x3 x4 x5 s0 T Qr Qx := by
  refine vc_X7_member_73 fun _ _ _ _ _ _ _ => ⟨fun q => ⟨fun q2 => ⟨fun q3 => sp_X7_holds (fun z => absurd z (by decide)) (fun _ _ _ => ⟨fun _ => ?_, fun z => absurd rfl z⟩), fun q3 => absurd (h3 q q2).1 q3⟩, fun q2 => sp_X7_holds (fun z => absurd z (by decide)) (fun _ _ _ => ⟨fun _ => ?_, fun z => absurd rfl z⟩)⟩, fun q => sp_X7_holds (fun z => absurd z (by decide)) (fun _ _ _ => ⟨fun _ => ?_, fun z => absurd rfl z⟩)⟩
  · rw [← (h3 q q2).2]; exact h
  · rw [← h2 q q2]; exact h
  · rw [← h1 q]; exact h
theorem m42 {x1 x2 x3 x4 x5 c : Int} (m0 : 0 ≤ T 0 6) (m40 : T 0 6 ≤ 40) (hc : c ≠ 0) (h1 : x4 = 0 → c = 1) (h2 : x4 ≠ 0 → x5 = 0 → c = 2) (h3 : x4 ≠ 0 → x5 ≠ 0 → c = 3 ∧ ¬ ((∀ k, 0 ≤ k → k < T 0 6 → ¬ mPair (cs T) x1 x2 k) ∧ T 0 6 < 40)) (h : Qr 0 (up T 0 0 c)) : R_X7_member_42 x1 x2 x3 x4 x5 T Qr Qx := by
  have f0 : R_X7_member_73 x1 x2 x3 x4 x5 0 T Qr Qx := m73 hc h1 h2 (fun q q2 => ⟨rfl, (h3 q q2).1⟩) h
  exact vc_X7_member_42 fun _ _ _ _ _ _ => ⟨fun _ => f0, fun q => ⟨fun _ => f0, fun q3 => sp_X7_between m0 m40 (fun k k0 k1 z _ _ => ⟨fun _ => f0, fun z2 => by omega⟩) (fun hno _ _ => ⟨fun z => absurd rfl z, fun _ => m73 hc h1 h2 (fun q q2 => absurd ⟨hno, q3⟩ (h3 q q2).2) h⟩)⟩⟩
theorem m21 {x1 x2 x3 x4 c : Int} (m0 : 0 ≤ T 0 6) (m40 : T 0 6 ≤ 40) (hc : c ≠ 0) (h1 : x4 = 0 → c = 1) (h2 : x4 ≠ 0 → ¬ (x1 ≠ x2 ∧ 0 ≤ x3 ∧ x3 ≤ 2) → c = 2) (h3 : x4 ≠ 0 → (x1 ≠ x2 ∧ 0 ≤ x3 ∧ x3 ≤ 2) → c = 3 ∧ ¬ ((∀ k, 0 ≤ k → k < T 0 6 → ¬ mPair (cs T) x1 x2 k) ∧ T 0 6 < 40)) (h : Qr 0 (up T 0 0 c)) : R_X7_member_21 x1 x2 x3 x4 T Qr Qx :=
  vc_X7_member_21 fun _ _ _ _ _ => ⟨fun q => m42 m0 m40 hc h1 (fun z _ => h2 z (fun y => y.1 q)) (fun _ z => absurd rfl z) h, fun q => sp_X7_isIn (fun q2 q3 _ _ => ⟨fun z => absurd z (by decide), fun _ => m42 m0 m40 hc h1 (fun _ z => absurd z (by decide)) (fun z _ => h3 z ⟨q, q2, q3⟩) h⟩) (fun q2 _ _ => ⟨fun _ => m42 m0 m40 hc h1 (fun z _ => h2 z (fun y => q2 y.2)) (fun _ z => absurd rfl z) h, fun z => absurd rfl z⟩)⟩
end
theorem pr_member {V : St} (hI : Inv V) (a b t : Int) : Pair V [IOOBE, IAE, ISE] (M_X6_member a b t) (M_X7_member a b t) := by
  have hI0 := hI
  obtain ⟨⟨n0, n10, m0, m40, hm⟩, hP, hq, ht, hrest⟩ := hI0
  by_cases hj : (0 ≤ a ∧ a < V 1 0) ∧ (0 ≤ b ∧ b < V 1 0)
  · by_cases hp : a ≠ b ∧ 0 ≤ t ∧ t ≤ 2
    · by_cases hc : (∀ k, 0 ≤ k → k < V 2 0 → ¬ mPair V a b k) ∧ V 2 0 < 40
      · refine ⟨0, V 2 0, updM V a b t, Inv_M hI hc.2 hj.1 hj.2 hp.1 (fun k k0 k1 z1 z2 => hc.1 k k0 k1 ⟨z1, z2⟩), by decide, by decide, fun S hS Qr Qx h _ => ?_, fun T hT hb Qr Qx h => ?_⟩
        · subst hS
          refine vc_X6_member fun _ _ _ _ => sp_X6_requireJoint (fun _ _ _ => sp_X6_requireJoint (fun _ _ _ => sp_X6_requireTwo (fun _ _ => ⟨fun z => by omega, fun _ => ⟨fun _ => sp_X3_join m0 m40 (fun k k0 k1 z => absurd ((mJ_iff hp.1).1 z) (hc.1 k k0 k1)) (fun _ _ _ => ⟨fun _ => sp_X6_requireRoomForMembers (by decide) (by decide) (fun _ _ => sp_X3_add m0 hc.2 fun _ _ => h rfl _ ?_) (fun z => by have : S 2 5 < 40 := hc.2; omega), fun z => absurd rfl z⟩), fun z => by omega⟩⟩) (fun z => absurd z hp.1)) (fun z => absurd hj.2 z)) (fun z => absurd hj.1 z)
          rw [vw_up2, vw_up (by decide), vw_up (by decide), vw_up (by decide)]
          rfl
        · subst hT
          refine vc_X7_member fun _ _ _ _ => sp_X7_isJoint n0 n10 (fun _ _ _ _ => ⟨fun z => absurd z (by decide), fun _ => sp_X7_isJoint n0 n10 (fun _ _ _ _ => ⟨fun z => absurd z (by decide), fun _ => ?_⟩) (fun z => absurd hj.2 z)⟩) (fun z => absurd hj.1 z)
          refine vc_X7_member_21 fun _ _ _ _ _ => ⟨fun z => absurd z hp.1, fun _ => sp_X7_isIn (fun _ _ _ _ => ⟨fun z => absurd z (by decide), fun _ => ?_⟩) (fun z => absurd hp.2 z)⟩
          refine vc_X7_member_42 fun _ _ _ _ _ _ => ⟨fun z => absurd z (by decide), fun _ => ⟨fun z => by have : T 0 6 < 40 := hc.2; omega, fun _ => sp_X7_between m0 m40 (fun k k0 k1 z => absurd z (hc.1 k k0 k1)) (fun _ _ _ => ⟨fun z => absurd rfl z, fun _ => ?_⟩)⟩⟩
          refine vc_X7_member_73 fun _ _ _ _ _ _ _ => ⟨fun _ => ⟨fun _ => ⟨fun z => absurd z (by decide), fun _ => sp_X7_holds (fun _ _ _ => ⟨fun z => absurd z (by decide), fun _ => sp_X7_sets ?_ ?_ fun _ _ => h _ _ ?_ (Tb_0 (Tb_k (Tb_k (Tb_k (Tb_0 hb (by decide)) (by decide)) (by decide)) (by decide)) (by decide)) ?_ fun _ => ?_⟩) (fun z => absurd rfl z)⟩, fun z => absurd z (by decide)⟩, fun z => absurd z (by decide)⟩
          · rw [up_at, if_neg (by decide)]; exact m0
          · rw [up_at, if_neg (by decide)]; exact hc.2
          · rw [cs_up2, cs_up (by decide), cs_up (by decide), cs_up (by decide), cs_h0, up_at, if_neg (by decide)]
            rfl
          · rw [up_at, if_neg (by decide), up_ne _ (by decide), up_ne _ (by decide), up_ne _ (by decide), up_at, if_pos rfl]
          · rw [up_at, if_neg (by decide)]; rfl
      · refine ⟨3, 0, V, hI, by decide, by decide, fun S hS Qr Qx _ hx => ?_, fun T hT hb Qr Qx h => ?_⟩
        · subst hS
          refine vc_X6_member fun _ _ _ _ => sp_X6_requireJoint (fun _ _ _ => sp_X6_requireJoint (fun _ _ _ => sp_X6_requireTwo (fun _ _ => ⟨fun z => by omega, fun _ => ⟨fun _ => sp_X3_join m0 m40 (fun k k0 k1 z _ _ => ⟨fun z2 => absurd z2 (by decide), fun _ => hx (by decide) _ rfl⟩) (fun hno _ _ => ⟨fun _ => sp_X6_requireRoomForMembers (by decide) (by decide) (fun z => absurd ⟨fun k k0 k1 zz => hno k k0 k1 ((mJ_iff hp.1).2 zz), by show S 2 5 < 40; omega⟩ hc) (fun _ => hx (by decide) _ rfl), fun z => absurd rfl z⟩), fun z => by omega⟩⟩) (fun z => absurd z hp.1)) (fun z => absurd hj.2 z)) (fun z => absurd hj.1 z)
        · subst hT
          exact vc_X7_member fun _ _ _ _ => sp_X7_isJoint n0 n10 (fun _ _ _ _ => ⟨fun z => absurd z (by decide), fun _ => sp_X7_isJoint n0 n10 (fun _ _ _ _ => ⟨fun z => absurd z (by decide), fun _ => m21 m0 m40 (by decide) (fun z => absurd z (by decide)) (fun _ z => absurd hp z) (fun _ _ => ⟨rfl, hc⟩) (thr_R rfl hb (by decide) h 0)⟩) (fun z => absurd hj.2 z)⟩) (fun z => absurd hj.1 z)
    · refine ⟨2, 0, V, hI, by decide, by decide, fun S hS Qr Qx _ hx => ?_, fun T hT hb Qr Qx h => ?_⟩
      · subst hS
        exact vc_X6_member fun _ _ _ _ => sp_X6_requireJoint (fun _ _ _ => sp_X6_requireJoint (fun _ _ _ => sp_X6_requireTwo (fun q _ => ⟨fun _ => hx (by decide) _ rfl, fun q2 => ⟨fun q3 => absurd ⟨q, q2, q3⟩ hp, fun _ => hx (by decide) _ rfl⟩⟩) (fun _ => hx (by decide) _ rfl)) (fun z => absurd hj.2 z)) (fun z => absurd hj.1 z)
      · subst hT
        exact vc_X7_member fun _ _ _ _ => sp_X7_isJoint n0 n10 (fun _ _ _ _ => ⟨fun z => absurd z (by decide), fun _ => sp_X7_isJoint n0 n10 (fun _ _ _ _ => ⟨fun z => absurd z (by decide), fun _ => m21 m0 m40 (by decide) (fun z => absurd z (by decide)) (fun _ _ => rfl) (fun _ z => absurd z hp) (thr_R rfl hb (by decide) h 0)⟩) (fun z => absurd hj.2 z)⟩) (fun z => absurd hj.1 z)
  · refine ⟨1, 0, V, hI, by decide, by decide, fun S hS Qr Qx _ hx => ?_, fun T hT hb Qr Qx h => ?_⟩
    · subst hS
      exact vc_X6_member fun _ _ _ _ => sp_X6_requireJoint (fun z1 z2 _ => sp_X6_requireJoint (fun z3 z4 => absurd ⟨⟨z1, z2⟩, z3, z4⟩ hj) (fun _ => hx (by decide) _ rfl)) (fun _ => hx (by decide) _ rfl)
    · subst hT
      have f0 : R_X7_member_21 a b t 0 T Qr Qx := m21 m0 m40 (by decide) (fun _ => rfl) (fun z => absurd rfl z) (fun z => absurd rfl z) (thr_R rfl hb (by decide) h 0)
      exact vc_X7_member fun _ _ _ _ => sp_X7_isJoint n0 n10 (fun z1 z2 _ _ => ⟨fun z => absurd z (by decide), fun _ => sp_X7_isJoint n0 n10 (fun z3 z4 => absurd ⟨⟨z1, z2⟩, z3, z4⟩ hj) (fun _ _ _ => ⟨fun _ => f0, fun z => absurd rfl z⟩)⟩) (fun _ _ _ => ⟨fun _ => f0, fun z => absurd rfl z⟩)
end OP1
