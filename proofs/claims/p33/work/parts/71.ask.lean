/-! THE LAW'S OWN CALLS: joints, sets, undoes, asks, isSet -/
section ASK
variable {S V : St} {D E : Int → Int} {Qr : Int → St → Prop} {Qx : String → St → Prop}
/-- a member that is there -/
def thr (V : St) (k : Int) : Prop := 0 ≤ k ∧ k < V 2 0 ∧ V 15 k = 0
theorem sL_joints {x y : Int} (hI : Inv V) (h : lv S V D E) (hp : inPt x y) (k1 : V 1 0 < 10 → ∀ S', Inv (updJ V x y) → lv S' (updJ V x y) D E → Qr (V 1 0) S') (k2 : V 1 0 = 10 → ∀ S', lv S' V D E → Qr (-2) S') : M_L_joints x y S Qr Qx := by
  have n10 := hI.1.2.1
  refine vc_L_joints fun _ _ _ => of_pr (pr_joint hI x y) h (fun r V' p i S' l => ?_) (fun c r V' p i hc _ _ S' l => ?_)
  · rcases p with ⟨_, a, _, p, rfl⟩ | ⟨_, _, p, _⟩ | ⟨p, _⟩
    · rw [p]; exact fun _ _ => k1 a _ i l
    · exact absurd p (by decide)
    · exact absurd hp p
  · rcases p with ⟨_, _, p, _⟩ | ⟨_, a, p, rfl⟩ | ⟨p, _⟩
    · exact absurd p hc
    · subst p
      exact fun _ => ⟨rfl, k2 (by omega) _ l⟩
    · exact absurd hp p
theorem sL_member {a b t z : Int} (hI : Inv V) (h : lv S V D E) (ha : 0 ≤ a ∧ a < V 1 0) (hb : 0 ≤ b ∧ b < V 1 0) (ht : 0 ≤ t ∧ t ≤ 2) (hm : V 2 0 < 40) (k0 : a = b → ∀ S', lv S' V D E → Qr (-3) S') (k1 : a ≠ b → (∃ k, thr V k ∧ mPair V a b k) → ∀ S', lv S' V D E → Qr (-2) S') (k2 : a ≠ b → ∀ S', Inv (updM V a b t) → lv S' (updM V a b t) D E → Qr (V 2 0) S') : M_L_sets a b t z 0 S Qr Qx := by
  refine vc_L_sets fun _ _ _ _ _ _ => ⟨fun q => absurd rfl q, fun _ => of_pr (pr_member hI a b t) h (fun r V' p i S' l => ?_) (fun c r V' p i hc _ _ S' l => ?_)⟩
  · rcases p with ⟨_, q, _, _, p, rfl⟩ | ⟨_, _, _, p, _⟩ | ⟨_, _, p, _⟩ | ⟨_, p, _⟩
    · rw [p]; exact fun _ _ => k2 q.1 _ i l
    · exact absurd p (by decide)
    · exact absurd p (by decide)
    · exact absurd p (by decide)
  · rcases p with ⟨_, _, _, p, _⟩ | ⟨_, q, q2, p, rfl⟩ | ⟨_, q, p, rfl⟩ | ⟨q, _⟩
    · exact absurd p hc
    · subst p
      refine fun _ => Or.inl ⟨rfl, k1 q.1 ?_ _ l⟩
      by_cases w : ∃ k, 0 ≤ k ∧ k < V' 2 0 ∧ mPair V' a b k
      · obtain ⟨k, k0, k1, k2⟩ := w
        exact ⟨k, ⟨k0, k1, k2.1⟩, k2⟩
      · exact absurd ⟨fun k k0 k1 k2 => w ⟨k, k0, k1, k2⟩, hm⟩ q2
    · subst p
      refine fun _ => Or.inr (Or.inl ⟨rfl, k0 ?_ _ l⟩)
      by_cases w : a = b
      · exact w
      · exact absurd ⟨w, ht⟩ q
    · exact absurd ⟨ha, hb⟩ q
theorem sL_grow {a b x y : Int} (hI : Inv V) (h : lv S V D E) (ha : 0 ≤ a ∧ a < V 1 0) (hb : 0 ≤ b ∧ b < V 1 0) (hp : inPt x y) (hm : V 2 0 ≤ 38) (k0 : a = b → ∀ S', lv S' V D E → Qr (-3) S') (k1 : a ≠ b → V 1 0 = 10 → ∀ S', lv S' V D E → Qr (-2) S') (k2 : a ≠ b → V 1 0 < 10 → ∀ S', Inv (updG V a b x y) → lv S' (updG V a b x y) D E → Qr (V 1 0) S') : M_L_sets a b x y 1 S Qr Qx := by
  have n10 := hI.1.2.1
  refine vc_L_sets fun _ _ _ _ _ _ => ⟨fun _ => ⟨fun q => absurd rfl q, fun _ => of_pr (pr_grow hI a b x y) h (fun r V' p i S' l => ?_) (fun c r V' p i hc _ _ S' l => ?_)⟩, fun q => absurd q (by decide)⟩
  · rcases p with ⟨_, q, q2, _, p, rfl⟩ | ⟨_, _, _, p, _⟩ | ⟨_, _, p, _⟩ | ⟨_, p, _⟩
    · rw [p]; exact fun _ _ => k2 q.1 q2.1 _ i l
    · exact absurd p (by decide)
    · exact absurd p (by decide)
    · exact absurd p (by decide)
  · rcases p with ⟨_, _, _, p, _⟩ | ⟨_, q, q2, p, rfl⟩ | ⟨_, q, p, rfl⟩ | ⟨q, _⟩
    · exact absurd p hc
    · subst p
      exact fun _ => Or.inl ⟨rfl, k1 q.1 (by omega) _ l⟩
    · subst p
      refine fun _ => Or.inr (Or.inl ⟨rfl, k0 ?_ _ l⟩)
      by_cases w : a = b
      · exact w
      · exact absurd ⟨w, hp⟩ q
    · exact absurd ⟨ha, hb⟩ q
theorem sL_split {k a x y : Int} (hI : Inv V) (h : lv S V D E) (ha : 0 ≤ a ∧ a < V 1 0) (hp : inPt x y) (hm : V 2 0 ≤ 37) (kx : ∀ c, -5 < c → c < 0 → ∀ S', lv S' V D E → Qr c S') (k2 : thr V k → a ≠ V 11 k → a ≠ V 12 k → V 1 0 < 10 → ∀ S', Inv (updP V k a x y) → lv S' (updP V k a x y) D E → Qr (V 1 0) S') : M_L_sets k a x y 2 S Qr Qx := by
  refine vc_L_sets fun _ _ _ _ _ _ => ⟨fun _ => ⟨fun _ => of_pr (pr_split hI k a x y) h (fun r V' p i S' l => ?_) (fun c r V' p i hc _ _ S' l => ?_), fun q => absurd q (by decide)⟩, fun q => absurd q (by decide)⟩
  · rcases p with ⟨q, q1, q2, _, p, rfl⟩ | ⟨_, _, _, p, _⟩ | ⟨_, _, p, _⟩ | ⟨_, p, _⟩
    · rw [p]; exact fun _ _ => k2 q.1 q1.1.1 q1.1.2 q2.1 _ i l
    · exact absurd p (by decide)
    · exact absurd p (by decide)
    · exact absurd p (by decide)
  · rcases p with ⟨_, _, _, p, _⟩ | ⟨_, _, _, p, rfl⟩ | ⟨_, _, p, rfl⟩ | ⟨_, p, rfl⟩
    · exact absurd p hc
    · subst p
      exact fun _ => Or.inl ⟨rfl, kx (-2) (by decide) (by decide) _ l⟩
    · subst p
      exact fun _ => Or.inr (Or.inl ⟨rfl, kx (-3) (by decide) (by decide) _ l⟩)
    · subst p
      exact fun _ => Or.inr (Or.inr ⟨rfl, kx (-4) (by decide) (by decide) _ l⟩)
/-- what an undo leaves -/
def und (V V' : St) : Prop := V' 1 0 = V 1 0 - 1 ∧ V' 2 0 = V 2 0 ∧ V' 3 0 = V 3 0 - 1 ∧ V' 11 = V 11 ∧ V' 12 = V 12 ∧ V' 14 = V 14 ∧ ∀ k, V 2 0 ≤ k → V 15 k = 0 → V' 15 k = 0
theorem und_of {V V' : St} (hI : Inv V) (hc : canU V) (h1 : bk V → V' = upc (up (u1 V) 15 (V 18 (V 3 0 - 1)) 0) 3 (V 3 0 - 1)) (h2 : ¬ bk V → V' = upc (u1 V) 3 (V 3 0 - 1)) : und V V' := by
  obtain ⟨_, _, _, _, _, hs0, _, _, hs3, _⟩ := hI
  obtain ⟨d1, d2, _⟩ := hs3 (V 3 0 - 1) (by have := hc.1; omega) (by omega)
  have h15 : ∀ k, V 2 0 ≤ k → V 15 k = 0 → u1 V 15 k = 0 := fun k k0 k1 => by
    rw [u1_15, if_neg (by omega)]
    exact k1
  have e2 : u1 V 2 0 = V 2 0 := by rw [u1_out (by decide) (by decide)]
  have e11 : u1 V 11 = V 11 := u1_out (by decide) (by decide)
  have e12 : u1 V 12 = V 12 := u1_out (by decide) (by decide)
  have e14 : u1 V 14 = V 14 := u1_out (by decide) (by decide)
  by_cases q : bk V
  · rw [h1 q]
    refine ⟨rfl, e2, rfl, e11, e12, e14, fun k k0 k1 => ?_⟩
    show (if k = V 18 (V 3 0 - 1) then (0 : Int) else u1 V 15 k) = 0
    split
    · rfl
    · exact h15 k k0 k1
  · rw [h2 q]
    exact ⟨rfl, e2, rfl, e11, e12, e14, h15⟩
theorem sL_undo (hI : Inv V) (h : lv S V D E) (k1 : ∀ V', Inv V' → und V V' → 0 < V 3 0 → ∀ S', lv S' V' D E → Qr (V 3 0 - 1) S') (k2 : ∀ S', lv S' V D E → Qr (-2) S') : M_L_undoes S Qr Qx := by
  refine vc_L_undoes fun _ => of_pr (pr_undo hI) h (fun r V' p i S' l => ?_) (fun c r V' p i hc _ _ S' l => ?_)
  · rcases p with ⟨q, _, p, u1, u2⟩ | ⟨_, p, _⟩
    · rw [p]; exact fun _ _ => k1 V' i (und_of hI q u1 u2) q.1 _ l
    · exact absurd p (by decide)
  · rcases p with ⟨_, p, _⟩ | ⟨_, p, rfl⟩
    · exact absurd p hc
    · subst p
      exact fun _ => ⟨rfl, k2 _ l⟩
theorem sA_remove {k v : Int} (hI : Inv V) (h : lv S V D E) (k1 : thr V k → ∀ S', Inv (up V 15 k 1) → lv S' (up V 15 k 1) D E → Qr (cn (mThere (up V 15 k 1)) (V 2 0)) S') (k2 : ¬ thr V k → ∀ S', lv S' V D E → Qr (-200) S') : M_L_asks k v 0 S Qr Qx := by
  refine vc_L_asks fun _ _ _ _ => ⟨fun q => absurd rfl q, fun _ => of_pr (pr_remove hI k) h (fun r V' p i S' l => ?_) (fun c r V' p i hc _ _ S' l => ?_)⟩
  · rcases p with ⟨q, _, p, rfl⟩ | ⟨_, p, _⟩
    · rw [p]; exact fun _ _ => k1 q _ i l
    · exact absurd p (by decide)
  · rcases p with ⟨_, p, _⟩ | ⟨q, p, rfl⟩
    · exact absurd p hc
    · subst p
      exact fun _ => ⟨rfl, k2 q _ l⟩
theorem sA_stress {k v : Int} (hI : Inv V) (h : lv S V D E) (hv : -99 ≤ v ∧ v ≤ 99) (k1 : thr V k → ∀ S', Inv (up V 14 k v) → lv S' (up V 14 k v) D E → Qr (V 14 k) S') (k2 : ¬ thr V k → ∀ S', lv S' V D E → Qr (-200) S') : M_L_asks k v 1 S Qr Qx := by
  refine vc_L_asks fun _ _ _ _ => ⟨fun _ => ⟨fun q => absurd rfl q, fun _ => of_pr (pr_stress hI k v) h (fun r V' p i S' l => ?_) (fun c r V' p i hc _ _ S' l => ?_)⟩, fun q => absurd q (by decide)⟩
  · rcases p with ⟨q, _, _, p, rfl⟩ | ⟨_, _, p, _⟩ | ⟨_, p, _⟩
    · rw [p]; exact fun _ _ => k1 q _ i l
    · exact absurd p (by decide)
    · exact absurd p (by decide)
  · rcases p with ⟨_, _, p, _⟩ | ⟨_, q, _⟩ | ⟨q, p, rfl⟩
    · exact absurd p hc
    · exact absurd hv q
    · subst p
      exact fun _ => ⟨rfl, k2 q _ l⟩
theorem sA_balance {k : Int} (hI : Inv V) (h : lv S V D E) (k1 : thr V k → ∀ r, ((cn (mKept V (-1)) (V 2 0) - (bl V).2.1 ≤ 0 ∧ r = -1) ∨ (0 < cn (mKept V (-1)) (V 2 0) - (bl V).2.1 ∧ ∃ x, isFreeC (bl V).2.2 (cn (mKept V (-1)) (V 2 0)) 0 x ∧ r = sol (bl V).1 (bl V).2.2 x (cn (mThere V) k))) → ∀ S', lv S' V D E → Qr r S') (k2 : ¬ thr V k → ∀ S', lv S' V D E → Qr (-200) S') : M_L_asks k 0 2 S Qr Qx := by
  refine vc_L_asks fun _ _ _ _ => ⟨fun _ => ⟨fun _ => ⟨fun q => absurd rfl q, fun _ => of_pr (pr_balance hI 0 k) h (fun r V' p i S' l => ?_) (fun c r V' p i hc _ _ S' l => ?_)⟩, fun q => absurd q (by decide)⟩, fun q => absurd q (by decide)⟩
  · rcases p with ⟨q, _, rfl, p⟩ | ⟨_, p, _⟩
    · exact fun _ _ => k1 q.1 r p _ l
    · exact absurd p (by decide)
  · rcases p with ⟨_, p, _⟩ | ⟨q, p, rfl⟩
    · exact absurd p hc
    · subst p
      exact fun _ => ⟨rfl, k2 (fun z => q ⟨z, Int.le_refl _⟩) _ l⟩
theorem sA_redundant {k v : Int} (hI : Inv V) (h : lv S V D E) (k1 : thr V k → ∀ r, 0 ≤ r → ∀ S', lv S' V D E → Qr r S') (k2 : ¬ thr V k → ∀ S', lv S' V D E → Qr (-200) S') : M_L_asks k v 3 S Qr Qx := by
  refine vc_L_asks fun _ _ _ _ => ⟨fun _ => ⟨fun _ => ⟨fun _ => of_pr (pr_isRedundant hI k) h (fun r V' p i S' l => ?_) (fun c r V' p i hc _ _ S' l => ?_), fun q => absurd q (by decide)⟩, fun q => absurd q (by decide)⟩, fun q => absurd q (by decide)⟩
  · rcases p with ⟨q, _, _, rfl⟩ | ⟨_, p, _⟩
    · exact fun _ _ => ⟨fun _ => k1 q 0 (by decide) _ l, fun _ => k1 q 1 (by decide) _ l⟩
    · exact absurd p (by decide)
  · rcases p with ⟨_, p, _⟩ | ⟨q, p, rfl⟩
    · exact absurd p hc
    · subst p
      exact fun _ => ⟨rfl, k2 q _ l⟩
/-- the law writes down a member that was set -/
theorem sL_isSet {s a b : Int} (hI : Inv V) (h : lv S V D E) (hs : s = D 1) (ht : thr V s) (h32 : s < 32) (h14 : V 14 s = 0) (k : ∀ S', lv S' V (ud D 1 (s + 1)) (ud (ud E (2 * s) a) (2 * s + 1) b) → Qr 1 S') : M_L_isSet s a b S Qr Qx := by
  have h0 := ht.1
  have e1 : S 70 1 = s := by rw [h.2.1, hs]
  refine vc_L_isSet fun _ _ _ _ => ?_
  rw [e1]
  refine ⟨⟨by omega, by omega⟩, ⟨by omega, by omega⟩, ⟨by omega, by omega⟩, ⟨by omega, by omega⟩, fun q => absurd (show s = s + 1 - 1 by omega) q, fun _ => ?_⟩
  have l1 := lv_70 (i := 1) (v := s + 1) (lv_71 (i := 2 * s + 1) (v := b) (lv_71 (i := 2 * s) (v := a) h))
  refine sA_stress hI l1 (by decide) (fun _ S' _ l => ?_) (fun q => absurd ht q)
  have e : up V 14 s 0 = V := by
    funext i j
    unfold up
    by_cases q : i = 14
    · rw [if_pos q]
      by_cases q2 : j = s
      · rw [if_pos q2, q, q2, h14]
      · rw [if_neg q2]
    · rw [if_neg q]
  rw [e] at l
  intro _ _
  exact ⟨fun q => absurd h14 q, fun _ => k S' l⟩
end ASK
