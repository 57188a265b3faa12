/-! CALLS IN PAIRS: grow and split -/
section GROW
def updS (V : St) (j f s : Int) : St := upc (up (up (up V 16 (V 3 0) j) 17 (V 3 0) f) 18 (V 3 0) s) 3 (V 3 0 + 1)
theorem updS_M {V : St} {a b t j f s : Int} : updS (updM V a b t) j f s = updM (updS V j f s) a b t := by
  funext k i
  by_cases h3 : k = 3
  · subst h3; rfl
  by_cases h2 : k = 2
  · subst h2; rfl
  by_cases h16 : k = 16
  · subst h16; rfl
  by_cases h17 : k = 17
  · subst h17; rfl
  by_cases h18 : k = 18
  · subst h18; rfl
  by_cases h11 : k = 11
  · subst h11; rfl
  by_cases h12 : k = 12
  · subst h12; rfl
  by_cases h13 : k = 13
  · subst h13; rfl
  simp [updS, updM, upc, up, h3, h2, h16, h17, h18, h11, h12, h13]
theorem updS_J {V : St} {a b j f s : Int} : updS (updJ V a b) j f s = updJ (updS V j f s) a b := by
  funext k i
  by_cases h3 : k = 3
  · subst h3; rfl
  by_cases h1 : k = 1
  · subst h1; rfl
  by_cases h16 : k = 16
  · subst h16; rfl
  by_cases h17 : k = 17
  · subst h17; rfl
  by_cases h18 : k = 18
  · subst h18; rfl
  by_cases h7 : k = 7
  · subst h7; rfl
  by_cases h8 : k = 8
  · subst h8; rfl
  by_cases h9 : k = 9
  · subst h9; rfl
  by_cases h10 : k = 10
  · subst h10; rfl
  simp [updS, updJ, upc, up, h3, h1, h16, h17, h18, h7, h8, h9, h10]
theorem upG_J {V : St} {a b g v : Int} : up (updJ V a b) 15 g v = updJ (up V 15 g v) a b := by
  funext k i
  by_cases h1 : k = 1
  · subst h1; rfl
  by_cases h15 : k = 15
  · subst h15; rfl
  by_cases h7 : k = 7
  · subst h7; rfl
  by_cases h8 : k = 8
  · subst h8; rfl
  by_cases h9 : k = 9
  · subst h9; rfl
  by_cases h10 : k = 10
  · subst h10; rfl
  simp [updJ, upc, up, h1, h15, h7, h8, h9, h10]
theorem Inv_S {V : St} {j f s : Int} (hI : Inv V) (hc : V 3 0 < V 1 0) (hj : 0 ≤ j ∧ j < V 1 0) (hm : ∀ t, 0 ≤ t → t < V 3 0 → V 16 t < j) (hf : 0 ≤ f) (hf2 : f + nb s ≤ V 2 0) (hb : ∀ i, 0 ≤ i → i < nb s → V 12 (f + i) = j) (hs : s = -1 ∨ (0 ≤ s ∧ s < V 2 0 ∧ V 11 s < j ∧ V 12 s < j)) : Inv (updS V j f s) := by
  obtain ⟨hv, hp, hq, ht, hu, hs0, hs1, hs2, hs3, hs4⟩ := hI
  have e16 : ∀ k, updS V j f s 16 k = if k = V 3 0 then j else V 16 k := fun k => rfl
  have e17 : ∀ k, updS V j f s 17 k = if k = V 3 0 then f else V 17 k := fun k => rfl
  have e18 : ∀ k, updS V j f s 18 k = if k = V 3 0 then s else V 18 k := fun k => rfl
  have e3 : updS V j f s 3 0 = V 3 0 + 1 := rfl
  refine ⟨hv, hp, hq, ht, hu, ⟨by rw [e3]; omega, by rw [e3]; show V 3 0 + 1 ≤ V 1 0; omega⟩, fun t t0 t1 => ?_, fun t u t0 tu u1 => ?_, fun t t0 t1 => ?_, fun t t0 t1 => ?_⟩
  · rw [e3] at t1
    rw [e16]
    show 0 ≤ _ ∧ _ < V 1 0
    by_cases q : t = V 3 0
    · rw [if_pos q]; exact hj
    · rw [if_neg q]; exact hs1 t t0 (by omega)
  · rw [e3] at u1
    rw [e16, e16, if_neg (by omega)]
    by_cases q : u = V 3 0
    · rw [if_pos q]; exact hm t t0 (by omega)
    · rw [if_neg q]; exact hs2 t u t0 tu (by omega)
  · rw [e3] at t1
    rw [e16, e17, e18]
    by_cases q : t = V 3 0
    · rw [if_pos q, if_pos q, if_pos q]; exact ⟨hf, hf2, hb⟩
    · rw [if_neg q, if_neg q, if_neg q]; exact hs3 t t0 (by omega)
  · rw [e3] at t1
    rw [e16, e18]
    by_cases q : t = V 3 0
    · rw [if_pos q, if_pos q]; exact hs
    · rw [if_neg q, if_neg q]; exact hs4 t t0 (by omega)
section
variable {S : St} {Qr : Int → St → Prop} {Qx : String → St → Prop} {V : St}
theorem sv_X1_add {a b : Int} (hV : vw S = V) (hn : 0 ≤ V 1 0) (hn2 : V 1 0 < 10) (h : ∀ S', vw S' = updJ V a b → Qr (V 1 0) S') : M_X1_add a b S Qr Qx := by
  subst hV
  refine sp_X1_add hn hn2 (h _ ?_)
  rw [vw_up1, vw_up (by decide), vw_up (by decide), vw_up (by decide), vw_up (by decide)]
  rfl
theorem sv_X3_add {a b t : Int} (hV : vw S = V) (hn : 0 ≤ V 2 0) (hn2 : V 2 0 < 40) (h : ∀ S', vw S' = updM V a b t → Qr (V 2 0) S') : M_X3_add a b t S Qr Qx := by
  subst hV
  refine sp_X3_add hn hn2 (h _ ?_)
  rw [vw_up2, vw_up (by decide), vw_up (by decide), vw_up (by decide)]
  rfl
theorem sv_X5_add {a b t : Int} (hV : vw S = V) (hn : 0 ≤ V 3 0) (hn2 : V 3 0 < 10) (h : ∀ S', vw S' = updS V a b t → Qr 0 S') : M_X5_add a b t S Qr Qx := by
  subst hV
  refine sp_X5_add hn hn2 (h _ ?_)
  rw [vw_up3, vw_up (by decide), vw_up (by decide), vw_up (by decide)]
  rfl
end
def updG (V : St) (a b x y : Int) : St := updS (updM (updM (updJ V x y) a (V 1 0) 0) b (V 1 0) 0) (V 1 0) (V 2 0) (-1)
theorem Inv_G {V : St} {a b x y : Int} (hI : Inv V) (hn : V 1 0 < 10) (hm : V 2 0 ≤ 38) (ha : 0 ≤ a ∧ a < V 1 0) (hb : 0 ≤ b ∧ b < V 1 0) (hab : a ≠ b) (hp : inPt x y) : Inv (updG V a b x y) := by
  have h1 := Inv_J hI hn hp
  obtain ⟨⟨n0, n10, m0, m40, hE⟩, _, _, _, _, hs0, hs1, _⟩ := hI
  have h2 := Inv_M (a := a) (b := V 1 0) (t := 0) h1 (by show V 2 0 < 40; omega) ⟨ha.1, by show a < V 1 0 + 1; omega⟩ ⟨n0, by show V 1 0 < V 1 0 + 1; omega⟩ (by omega) (fun k k0 k1 z z2 => by
    have := (hE k k0 k1).2.2.2.2.2 z
    have z2' : (V 11 k = a ∧ V 12 k = V 1 0) ∨ (V 11 k = V 1 0 ∧ V 12 k = a) := z2
    omega)
  have h3 := Inv_M (a := b) (b := V 1 0) (t := 0) h2 (by show V 2 0 + 1 < 40; omega) ⟨hb.1, by show b < V 1 0 + 1; omega⟩ ⟨n0, by show V 1 0 < V 1 0 + 1; omega⟩ (by omega) (fun k k0 k1 z z2 => by
    have k1' : k < V 2 0 + 1 := k1
    have z2' : ((if k = V 2 0 then a else V 11 k) = b ∧ (if k = V 2 0 then V 1 0 else V 12 k) = V 1 0) ∨ ((if k = V 2 0 then a else V 11 k) = V 1 0 ∧ (if k = V 2 0 then V 1 0 else V 12 k) = b) := z2
    by_cases q : k = V 2 0
    · rw [if_pos q, if_pos q] at z2'; omega
    · rw [if_neg q, if_neg q] at z2'
      have := (hE k k0 (by omega)).2.2.2.2.2 z
      omega)
  refine Inv_S h3 (by show V 3 0 < V 1 0 + 1; omega) ⟨n0, by show V 1 0 < V 1 0 + 1; omega⟩ (fun t t0 t1 => (hs1 t t0 t1).2) m0 (by show V 2 0 + 2 ≤ V 2 0 + 1 + 1; omega) (fun i i0 i1 => ?_) (Or.inl rfl)
  have i1' : i < 2 := i1
  show (if V 2 0 + i = V 2 0 + 1 then V 1 0 else if V 2 0 + i = V 2 0 then V 1 0 else V 12 (V 2 0 + i)) = V 1 0
  split
  · rfl
  · rw [if_pos (by omega)]
theorem pr_grow {V : St} (hI : Inv V) (a b x y : Int) : PairP V [IOOBE, IAE, ISE] (M_X6_grow a b x y) (fun c r V' => (((0 ≤ a ∧ a < V 1 0) ∧ (0 ≤ b ∧ b < V 1 0)) ∧ (a ≠ b ∧ inPt x y) ∧ (V 1 0 < 10 ∧ V 2 0 ≤ 38) ∧ c = 0 ∧ r = V 1 0 ∧ V' = updG V a b x y) ∨ (((0 ≤ a ∧ a < V 1 0) ∧ (0 ≤ b ∧ b < V 1 0)) ∧ (a ≠ b ∧ inPt x y) ∧ ¬ (V 1 0 < 10 ∧ V 2 0 ≤ 38) ∧ c = 3 ∧ V' = V) ∨ (((0 ≤ a ∧ a < V 1 0) ∧ (0 ≤ b ∧ b < V 1 0)) ∧ ¬ (a ≠ b ∧ inPt x y) ∧ c = 2 ∧ V' = V) ∨ (¬ ((0 ≤ a ∧ a < V 1 0) ∧ (0 ≤ b ∧ b < V 1 0)) ∧ c = 1 ∧ V' = V)) := by
  have hI0 := hI
  obtain ⟨⟨n0, n10, m0, m40, hm⟩, _, _, _, _, hs0, hs1, _⟩ := hI0
  by_cases hj : (0 ≤ a ∧ a < V 1 0) ∧ (0 ≤ b ∧ b < V 1 0)
  · by_cases hp : a ≠ b ∧ inPt x y
    · by_cases hc : V 1 0 < 10 ∧ V 2 0 ≤ 38
      · refine ⟨0, V 1 0, updG V a b x y, Or.inl ⟨hj, hp, hc, rfl, rfl, rfl⟩, Inv_G hI hc.1 hc.2 hj.1 hj.2 hp.1 hp.2, by decide, by decide, fun S hS Qr Qx h _ => ?_⟩
        · have e1 : S 1 4 = V 1 0 := by rw [← hS]; rfl
          have e2 : S 2 5 = V 2 0 := by rw [← hS]; rfl
          refine vc_X6_grow fun _ _ _ _ _ => sp_X6_requireJoint (fun _ _ _ => sp_X6_requireJoint (fun _ _ _ => sp_X6_requireTwo (fun _ _ => sp_X6_requirePoint (fun _ _ => sp_X6_requireRoomForJoint (fun _ _ => sp_X6_requireRoomForMembers (by decide) (by decide) (fun _ _ => ?_) (fun z => by omega)) (fun z => by omega)) (fun z => absurd hp.2 z)) (fun z => absurd z hp.1)) (fun z => by omega)) (fun z => by omega)
          refine sv_X1_add hS n0 hc.1 fun S1 v1 _ _ => sv_X3_add v1 m0 (by show V 2 0 < 40; omega) fun S2 v2 _ _ => sv_X3_add v2 (by show 0 ≤ V 2 0 + 1; omega) (by show V 2 0 + 1 < 40; omega) fun S3 v3 _ _ => sv_X5_add v3 hs0.1 (by show V 3 0 < 10; omega) fun S4 v4 _ => h rfl S4 v4
      · refine ⟨3, 0, V, Or.inr (Or.inl ⟨hj, hp, hc, rfl, rfl⟩), hI, by decide, by decide, fun S hS Qr Qx _ hx => ?_⟩
        · subst hS
          have e1 : S 1 4 = vw S 1 0 := rfl
          have e2 : S 2 5 = vw S 2 0 := rfl
          exact vc_X6_grow fun _ _ _ _ _ => sp_X6_requireJoint (fun _ _ _ => sp_X6_requireJoint (fun _ _ _ => sp_X6_requireTwo (fun _ _ => sp_X6_requirePoint (fun _ _ => sp_X6_requireRoomForJoint (fun _ _ => sp_X6_requireRoomForMembers (by decide) (by decide) (fun _ => by omega) (fun _ => hx (by decide) _ rfl)) (fun _ => hx (by decide) _ rfl)) (fun z => absurd hp.2 z)) (fun z => absurd z hp.1)) (fun z => by omega)) (fun z => by omega)
    · refine ⟨2, 0, V, Or.inr (Or.inr (Or.inl ⟨hj, hp, rfl, rfl⟩)), hI, by decide, by decide, fun S hS Qr Qx _ hx => ?_⟩
      · subst hS
        exact vc_X6_grow fun _ _ _ _ _ => sp_X6_requireJoint (fun _ _ _ => sp_X6_requireJoint (fun _ _ _ => sp_X6_requireTwo (fun q _ => sp_X6_requirePoint (fun q2 => absurd ⟨q, q2⟩ hp) (fun _ => hx (by decide) _ rfl)) (fun _ => hx (by decide) _ rfl)) (fun z => absurd hj.2 z)) (fun z => absurd hj.1 z)
  · refine ⟨1, 0, V, Or.inr (Or.inr (Or.inr (⟨hj, rfl, rfl⟩))), hI, by decide, by decide, fun S hS Qr Qx _ hx => ?_⟩
    · subst hS
      exact vc_X6_grow fun _ _ _ _ _ => sp_X6_requireJoint (fun z1 z2 _ => sp_X6_requireJoint (fun z3 z4 => absurd ⟨⟨z1, z2⟩, z3, z4⟩ hj) (fun _ => hx (by decide) _ rfl)) (fun _ => hx (by decide) _ rfl)
end GROW
