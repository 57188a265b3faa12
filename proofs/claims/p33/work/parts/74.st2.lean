/-! STEPS of the law: growth, splits, undone steps, stresses, ranges, places, ranks at drawn points -/
section ST2
variable {S V : St} {D E : Int → Int} {Qr : Int → St → Prop} {Qx : String → St → Prop}
theorem cn_last {p : Int → Bool} {m : Int} (hm : 0 ≤ m) (h : p m = true) : cn p (m + 1) = cn p m + 1 := cn_t hm h
/-- the frame grown: what the law asks of it -/
theorem grow_deg {V : St} {a b x y : Int} (hI : Inv V) (hX : IX V) (hm : V 2 0 ≤ 38) : cn (mEnd (updG V a b x y) (V 1 0)) (updG V a b x y 2 0) = 2 := by
  have m0 := hI.1.2.2.1
  have em : updG V a b x y 2 0 = V 2 0 + 1 + 1 := rfl
  have e11 : ∀ j, updG V a b x y 11 j = if j = V 2 0 + 1 then b else if j = V 2 0 then a else V 11 j := fun j => rfl
  have e12 : ∀ j, updG V a b x y 12 j = if j = V 2 0 + 1 then V 1 0 else if j = V 2 0 then V 1 0 else V 12 j := fun j => rfl
  have e15 : ∀ j, updG V a b x y 15 j = V 15 j := fun j => rfl
  have t1 : mEnd (updG V a b x y) (V 1 0) (V 2 0 + 1) = true := decide_eq_true ⟨by rw [e15]; exact (hX _ (by omega)).1, Or.inr (by rw [e12, if_pos rfl])⟩
  have t2 : mEnd (updG V a b x y) (V 1 0) (V 2 0) = true := decide_eq_true ⟨by rw [e15]; exact (hX _ (by omega)).1, Or.inr (by rw [e12, if_neg (by omega), if_pos rfl])⟩
  have t3 : cn (mEnd (updG V a b x y) (V 1 0)) (V 2 0) = cn (mEnd V (V 1 0)) (V 2 0) := cn_congr fun k k0 k1 => by
    unfold mEnd
    rw [e11, e12, e15, if_neg (by omega), if_neg (by omega), if_neg (by omega), if_neg (by omega)]
  rw [em, cn_last (by omega) t1, cn_last m0 t2, t3, deg_new hI (Int.le_refl _)]
  rfl
theorem sL_isGrown {a b x y : Int} (hL : LJ V D E) (h : lv S V D E) (ha : 0 ≤ a ∧ a < V 1 0) (hb : 0 ≤ b ∧ b < V 1 0) (hp : inPt x y) (h30 : V 2 0 ≤ 30) (hQ : ∀ S' V' D' E', lv S' V' D' E' → LJ V' D' E' → Qr 1 S') : M_L_isGrown a b x y S Qr Qx := by
  obtain ⟨hI, hX, ⟨d0, d1, d2⟩, hE, hm, h32⟩ := id hL
  obtain ⟨n0, n10, m0, _⟩ := hI.1
  have hs := hI.2.2.2.2.2.1
  have hr := kc_rg V (-1)
  refine vc_L_isGrown fun _ _ _ _ _ => cl_kept hI h fun S1 m1 _ _ => sL_grow hI m1 ha hb hp (by omega) (fun e S' l => ?_) (fun e hn S' l => ?_) (fun hab hn S' hI' l => ?_)
  · exact fun _ _ => ⟨fun q => absurd q (by decide), fun _ => ⟨fun q => absurd rfl q, fun _ => ⟨fun q => absurd e q, fun _ => hQ _ _ _ _ l hL⟩⟩⟩
  · intro _ _
    have e0 : S' 70 0 = V 1 0 := by rw [l.2.1]; exact d0
    rw [e0]
    exact ⟨fun q => absurd q (by decide), fun _ => ⟨fun _ => ⟨fun q => absurd hn q, fun _ => hQ _ _ _ _ l hL⟩, fun q => absurd q (by decide)⟩⟩
  · intro _ _
    have e0 : S' 70 0 = V 1 0 := by rw [l.2.1]; exact d0
    have e1 : S' 70 1 = V 2 0 := by rw [l.2.1]; exact d1
    have e2 : S' 70 2 = V 3 0 := by rw [l.2.1]; exact d2
    rw [e0, e1, e2]
    have hg := kc_grow hI hX hn (by omega) ha hb hab hp
    have hd := grow_deg (a := a) (b := b) (x := x) (y := y) hI hX (by omega)
    have hj : 0 ≤ V 1 0 ∧ V 1 0 < updG V a b x y 1 0 := ⟨n0, by show V 1 0 < V 1 0 + 1; omega⟩
    refine ⟨fun _ => ⟨fun q => absurd rfl q, fun _ => cl_kept hI' l fun S2 m2 _ _ => ⟨⟨by omega, by omega⟩, fun q => absurd hg q, fun _ => cl_of2 hI' m2 hj fun S3 m3 _ _ => ⟨fun q => absurd hd q, fun _ => ⟨⟨by omega, by omega⟩, ⟨by omega, by omega⟩, ?_⟩⟩⟩⟩, fun q => by omega⟩
    have hX' : IX (updG V a b x y) := fun k hk => hX k (by have hk' : V 2 0 + 1 + 1 ≤ k := hk; omega)
    have hP := PJ_D (V' := updG V a b x y) (d := 1) hL hI' hX' rfl rfl (fun k k0 k1 => by
      show (if k = V 2 0 + 1 then b else if k = V 2 0 then a else V 11 k) = V 11 k ∧ (if k = V 2 0 + 1 then V 1 0 else if k = V 2 0 then V 1 0 else V 12 k) = V 12 k
      rw [if_neg (by omega), if_neg (by omega), if_neg (by omega), if_neg (by omega)]
      exact ⟨rfl, rfl⟩) (by show V 2 0 ≤ V 2 0 + 1 + 1; omega) (by show V 2 0 + 1 + 1 ≤ 32; omega)
    have l1 := lv_70 (i := 2) (v := V 3 0 + 1) (lv_70 (i := 0) (v := V 1 0 + 1) m3)
    refine sP_isSet hP l1 ⟨m0, by show V 2 0 < V 2 0 + 1 + 1; omega, (hX _ (Int.le_refl _)).1⟩ (hX _ (Int.le_refl _)).2 ?_ ?_ fun S4 D4 E4 l4 hP4 _ _ => ⟨fun q => absurd q (by decide), fun _ => ?_⟩
    · show a = (if V 2 0 = V 2 0 + 1 then b else if V 2 0 = V 2 0 then a else V 11 (V 2 0))
      rw [if_neg (by omega), if_pos rfl]
    · show V 1 0 = (if V 2 0 = V 2 0 + 1 then V 1 0 else if V 2 0 = V 2 0 then V 1 0 else V 12 (V 2 0))
      rw [if_neg (by omega), if_pos rfl]
    · have e4 : S4 70 1 = V 2 0 + 1 := by rw [l4.2.1]; exact hP4.2.2.1.2.1
      rw [e4]
      refine sP_isSet hP4 l4 ⟨by omega, by show V 2 0 + 1 < V 2 0 + 1 + 1; omega, (hX _ (by omega)).1⟩ (hX _ (by omega)).2 ?_ ?_ fun S5 D5 E5 l5 hP5 _ _ => ⟨fun q => absurd q (by decide), fun _ => hQ _ _ _ _ l5 hP5⟩
      · show b = (if V 2 0 + 1 = V 2 0 + 1 then b else if V 2 0 + 1 = V 2 0 then a else V 11 (V 2 0 + 1))
        rw [if_pos rfl]
      · show V 1 0 = (if V 2 0 + 1 = V 2 0 + 1 then V 1 0 else if V 2 0 + 1 = V 2 0 then V 1 0 else V 12 (V 2 0 + 1))
        rw [if_pos rfl]
theorem split_deg {V : St} {k c x y : Int} (hI : Inv V) (hX : IX V) (hk : thr V k) (hm : V 2 0 ≤ 37) : cn (mEnd (updP V k c x y) (V 1 0)) (updP V k c x y 2 0) = 3 := by
  have m0 := hI.1.2.2.1
  have hlt := hk.2.1
  have em : updP V k c x y 2 0 = V 2 0 + 1 + 1 + 1 := rfl
  have e11 : ∀ j, updP V k c x y 11 j = if j = V 2 0 + 1 + 1 then c else if j = V 2 0 + 1 then V 12 k else if j = V 2 0 then V 11 k else V 11 j := fun j => rfl
  have e12 : ∀ j, updP V k c x y 12 j = if j = V 2 0 + 1 + 1 then V 1 0 else if j = V 2 0 + 1 then V 1 0 else if j = V 2 0 then V 1 0 else V 12 j := fun j => rfl
  have e15 : ∀ j, updP V k c x y 15 j = if j = k then 1 else V 15 j := fun j => rfl
  have f15 : ∀ j, V 2 0 ≤ j → updP V k c x y 15 j = 0 := fun j hj => by rw [e15, if_neg (by omega)]; exact (hX j hj).1
  have t0 : mEnd (updP V k c x y) (V 1 0) (V 2 0 + 1 + 1) = true := decide_eq_true ⟨f15 _ (by omega), Or.inr (by rw [e12, if_pos rfl])⟩
  have t1 : mEnd (updP V k c x y) (V 1 0) (V 2 0 + 1) = true := decide_eq_true ⟨f15 _ (by omega), Or.inr (by rw [e12, if_neg (by omega), if_pos rfl])⟩
  have t2 : mEnd (updP V k c x y) (V 1 0) (V 2 0) = true := decide_eq_true ⟨f15 _ (by omega), Or.inr (by rw [e12, if_neg (by omega), if_neg (by omega), if_pos rfl])⟩
  have t3 : cn (mEnd (updP V k c x y) (V 1 0)) (V 2 0) = 0 := cn_false m0 fun j j0 j1 => decide_eq_false fun z => by
    obtain ⟨b1, b2, b3, b4, b5, b6⟩ := hI.1.2.2.2.2 j j0 j1
    have z1 := z.1
    have z2 := z.2
    rw [e15] at z1
    rw [e11, e12, if_neg (by omega), if_neg (by omega), if_neg (by omega), if_neg (by omega), if_neg (by omega), if_neg (by omega)] at z2
    by_cases q : j = k
    · rw [if_pos q] at z1; exact absurd z1 (by decide)
    · rw [if_neg q] at z1
      have := b6 z1
      omega
  rw [em, cn_last (by omega) t0, cn_last (by omega) t1, cn_last m0 t2, t3]
  rfl
theorem sL_isSplit {k c x y : Int} (hL : LJ V D E) (h : lv S V D E) (hc : 0 ≤ c ∧ c < V 1 0) (hp : inPt x y) (h29 : V 2 0 ≤ 29) (hQ : ∀ S' V' D' E', lv S' V' D' E' → LJ V' D' E' → Qr 1 S') : M_L_isSplit k c x y S Qr Qx := by
  obtain ⟨hI, hX, ⟨d0, d1, d2⟩, hE, hm, h32⟩ := id hL
  obtain ⟨n0, n10, m0, _⟩ := hI.1
  have hs := hI.2.2.2.2.2.1
  have hr := kc_rg V (-1)
  refine vc_L_isSplit fun _ _ _ _ _ => sL_split hI h hc hp (by omega) (fun z z0 z1 S' l => ?_) (fun hk q1 q2 hn S' hI' l => ?_)
  · exact fun _ _ => ⟨fun q => by omega, fun _ => ⟨fun q => by omega, fun _ => cl_kept hI l fun S1 m1 _ _ => ⟨fun q => by omega, fun _ => hQ _ _ _ _ m1 hL⟩⟩⟩
  · intro _ _
    have k0 := hk.1
    have k1 := hk.2.1
    have e0 : S' 70 0 = V 1 0 := by rw [l.2.1]; exact d0
    rw [e0]
    have hd := split_deg (c := c) (x := x) (y := y) hI hX hk (by omega)
    have hj : 0 ≤ V 1 0 ∧ V 1 0 < updP V k c x y 1 0 := ⟨n0, by show V 1 0 < V 1 0 + 1; omega⟩
    have e15 : updP V k c x y 15 k = 1 := by show (if k = k then (1 : Int) else V 15 k) = 1; rw [if_pos rfl]
    have f15 : ∀ j, V 2 0 ≤ j → updP V k c x y 15 j = 0 := fun j hj => by show (if j = k then (1 : Int) else V 15 j) = 0; rw [if_neg (by omega)]; exact (hX j hj).1
    refine ⟨fun _ => ⟨fun q => absurd rfl q, fun _ => cl_of2 hI' l hj fun S2 m2 _ _ => ⟨fun q => absurd hd q, fun _ => sA_stress hI' m2 (by decide) (fun ht => ?_) (fun _ S3 l3 _ _ => ⟨fun q => absurd rfl q, fun _ => ?_⟩)⟩⟩, fun q => by omega⟩
    · have := ht.2.2
      rw [e15] at this
      exact absurd this (by decide)
    · have f0 : S3 70 0 = V 1 0 := by rw [l3.2.1]; exact d0
      have f1 : S3 70 1 = V 2 0 := by rw [l3.2.1]; exact d1
      have f2 : S3 70 2 = V 3 0 := by rw [l3.2.1]; exact d2
      have f3 : S3 71 (2 * k) = V 11 k := by rw [l3.2.2]; exact (hE k k0 k1).1
      rw [f0, f1, f2, f3]
      refine ⟨⟨by omega, by omega⟩, ⟨by omega, by omega⟩, ⟨by omega, by omega⟩, ?_⟩
      have hX' : IX (updP V k c x y) := fun j hj => by
        have hj' : V 2 0 + 1 + 1 + 1 ≤ j := hj
        exact ⟨f15 j (by omega), (hX j (by omega)).2⟩
      have hP := PJ_D (V' := updP V k c x y) (d := 1) hL hI' hX' rfl rfl (fun j j0 j1 => by
        show (if j = V 2 0 + 1 + 1 then c else if j = V 2 0 + 1 then V 12 k else if j = V 2 0 then V 11 k else V 11 j) = V 11 j ∧ (if j = V 2 0 + 1 + 1 then V 1 0 else if j = V 2 0 + 1 then V 1 0 else if j = V 2 0 then V 1 0 else V 12 j) = V 12 j
        rw [if_neg (by omega), if_neg (by omega), if_neg (by omega), if_neg (by omega), if_neg (by omega), if_neg (by omega)]
        exact ⟨rfl, rfl⟩) (by show V 2 0 ≤ V 2 0 + 1 + 1 + 1; omega) (by show V 2 0 + 1 + 1 + 1 ≤ 32; omega)
      have l1 := lv_70 (i := 2) (v := V 3 0 + 1) (lv_70 (i := 0) (v := V 1 0 + 1) l3)
      have g11 : updP V k c x y 11 k = V 11 k := by
        show (if k = V 2 0 + 1 + 1 then c else if k = V 2 0 + 1 then V 12 k else if k = V 2 0 then V 11 k else V 11 k) = V 11 k
        rw [if_neg (by omega), if_neg (by omega), if_neg (by omega)]
      have g12 : updP V k c x y 12 k = V 12 k := by
        show (if k = V 2 0 + 1 + 1 then V 1 0 else if k = V 2 0 + 1 then V 1 0 else if k = V 2 0 then V 1 0 else V 12 k) = V 12 k
        rw [if_neg (by omega), if_neg (by omega), if_neg (by omega)]
      refine sP_isSet hP l1 ⟨m0, by show V 2 0 < V 2 0 + 1 + 1 + 1; omega, f15 _ (Int.le_refl _)⟩ (hX _ (Int.le_refl _)).2 ?_ ?_ fun S4 D4 E4 l4 hP4 _ _ => ⟨fun q => absurd q (by decide), fun _ => ?_⟩
      · show V 11 k = (if V 2 0 = V 2 0 + 1 + 1 then c else if V 2 0 = V 2 0 + 1 then V 12 k else if V 2 0 = V 2 0 then V 11 k else V 11 (V 2 0))
        rw [if_neg (by omega), if_neg (by omega), if_pos rfl]
      · show V 1 0 = (if V 2 0 = V 2 0 + 1 + 1 then V 1 0 else if V 2 0 = V 2 0 + 1 then V 1 0 else if V 2 0 = V 2 0 then V 1 0 else V 12 (V 2 0))
        rw [if_neg (by omega), if_neg (by omega), if_pos rfl]
      · have e4 : S4 70 1 = V 2 0 + 1 := by rw [l4.2.1]; exact hP4.2.2.1.2.1
        have e5 : S4 71 (2 * k + 1) = V 12 k := by rw [l4.2.2]; exact ((hP4.2.2.2.1 k k0 (by omega)).2).trans g12
        rw [e4, e5]
        refine ⟨⟨by omega, by omega⟩, ?_⟩
        refine sP_isSet hP4 l4 ⟨by omega, by show V 2 0 + 1 < V 2 0 + 1 + 1 + 1; omega, f15 _ (by omega)⟩ (hX _ (by omega)).2 ?_ ?_ fun S5 D5 E5 l5 hP5 _ _ => ⟨fun q => absurd q (by decide), fun _ => ?_⟩
        · show V 12 k = (if V 2 0 + 1 = V 2 0 + 1 + 1 then c else if V 2 0 + 1 = V 2 0 + 1 then V 12 k else if V 2 0 + 1 = V 2 0 then V 11 k else V 11 (V 2 0 + 1))
          rw [if_neg (by omega), if_pos rfl]
        · show V 1 0 = (if V 2 0 + 1 = V 2 0 + 1 + 1 then V 1 0 else if V 2 0 + 1 = V 2 0 + 1 then V 1 0 else if V 2 0 + 1 = V 2 0 then V 1 0 else V 12 (V 2 0 + 1))
          rw [if_neg (by omega), if_pos rfl]
        · have e6 : S5 70 1 = V 2 0 + 1 + 1 := by rw [l5.2.1]; exact hP5.2.2.1.2.1
          rw [e6]
          refine sP_isSet hP5 l5 ⟨by omega, by show V 2 0 + 1 + 1 < V 2 0 + 1 + 1 + 1; omega, f15 _ (by omega)⟩ (hX _ (by omega)).2 ?_ ?_ fun S6 D6 E6 l6 hP6 _ _ => ⟨fun q => absurd q (by decide), fun _ => hQ _ _ _ _ l6 hP6⟩
          · show c = (if V 2 0 + 1 + 1 = V 2 0 + 1 + 1 then c else if V 2 0 + 1 + 1 = V 2 0 + 1 then V 12 k else if V 2 0 + 1 + 1 = V 2 0 then V 11 k else V 11 (V 2 0 + 1 + 1))
            rw [if_pos rfl]
          · show V 1 0 = (if V 2 0 + 1 + 1 = V 2 0 + 1 + 1 then V 1 0 else if V 2 0 + 1 + 1 = V 2 0 + 1 then V 1 0 else if V 2 0 + 1 + 1 = V 2 0 then V 1 0 else V 12 (V 2 0 + 1 + 1))
            rw [if_pos rfl]
theorem st_553 {a b x y : Int} (hL : LJ V D E) (h : lv S V D E) (ha : 0 ≤ a ∧ a < V 1 0) (hb : 0 ≤ b ∧ b < V 1 0) (hp : inPt x y) (hQ : ∀ S' V' D' E', lv S' V' D' E' → LJ V' D' E' → Qr 1 S') : R_L_step_553 a b x y S Qr Qx := by
  refine vc_L_step_553 fun _ _ _ _ _ => ?_
  rw [(PJ_at hL h).2.1]
  exact ⟨fun _ => hQ _ _ _ _ h hL, fun q => sL_isGrown hL h ha hb hp q fun S' V' D' E' l L _ _ => ⟨fun z => absurd z (by decide), fun _ => hQ _ _ _ _ l L⟩⟩
theorem st_584 {c k x y : Int} (hL : LJ V D E) (h : lv S V D E) (hc : 0 ≤ c ∧ c < V 1 0) (hp : inPt x y) (hQ : ∀ S' V' D' E', lv S' V' D' E' → LJ V' D' E' → Qr 1 S') : R_L_step_584 c k x y S Qr Qx := by
  refine vc_L_step_584 fun _ _ _ _ _ => ?_
  rw [(PJ_at hL h).2.1]
  exact ⟨fun _ => hQ _ _ _ _ h hL, fun q => sL_isSplit hL h hc hp q fun S' V' D' E' l L _ _ => ⟨fun z => absurd z (by decide), fun _ => hQ _ _ _ _ l L⟩⟩
theorem st_615 (hL : LJ V D E) (h : lv S V D E) (hQ : ∀ S' V' D' E', lv S' V' D' E' → LJ V' D' E' → Qr 1 S') : R_L_step_615 S Qr Qx := by
  obtain ⟨hI, hX, ⟨d0, d1, d2⟩, hE, hm, h32⟩ := id hL
  obtain ⟨n0, n10, m0, _⟩ := hI.1
  have hs := hI.2.2.2.2.2.1
  refine vc_L_step_615 fun _ => sL_undo hI h (fun V' hI' hu h3 S' l => ?_) (fun S' l => ?_)
  · intro _ _
    have e0 : S' 70 0 = V 1 0 := by rw [l.2.1]; exact d0
    have e2 : S' 70 2 = V 3 0 := by rw [l.2.1]; exact d2
    rw [e0, e2]
    obtain ⟨u1, u2, u3, u11, u12, u14, u15⟩ := hu
    refine ⟨fun _ => ⟨⟨by omega, by omega⟩, fun _ => ⟨⟨by omega, by omega⟩, fun q => by omega, fun _ => ⟨fun q => absurd rfl q, fun _ => hQ _ _ _ _ (lv_70 (i := 2) (v := V 3 0 - 1) (lv_70 (i := 0) (v := V 1 0 - 1) l)) ?_⟩⟩, fun q => by omega⟩, fun q => by omega⟩
    have hP := PJ_D (V' := V') (d := -1) (m := V 2 0) hL hI' (fun k hk => by
      rw [u2] at hk
      rw [u14]
      exact ⟨u15 k hk (hX k hk).1, (hX k hk).2⟩) u1 u3 (fun k _ _ => by rw [u11, u12]; exact ⟨rfl, rfl⟩) (by omega) (by omega)
    unfold LJ
    rw [u2]
    exact hP
  · intro _ _
    have e0 : S' 70 0 = V 1 0 := by rw [l.2.1]; exact d0
    have e2 : S' 70 2 = V 3 0 := by rw [l.2.1]; exact d2
    rw [e0, e2]
    refine ⟨fun q => absurd rfl q, fun _ => ⟨⟨by omega, by omega⟩, fun q => absurd rfl q, fun _ => ⟨⟨by omega, by omega⟩, fun _ => hQ _ _ _ _ (lv_70 (i := 2) (v := V 3 0 - 0) (lv_70 (i := 0) (v := V 1 0 - 0) l)) ?_, fun q => absurd rfl q⟩⟩⟩
    have hP := PJ_D (V' := V) (d := -0) (m := V 2 0) hL hI hX (by omega) (by omega) (fun k _ _ => ⟨rfl, rfl⟩) (by omega) (by omega)
    exact hP
theorem st_678 {x k : Int} (hL : LJ V D E) (h : lv S V D E) (hx : 0 ≤ x) (hQ : ∀ S' V' D' E', lv S' V' D' E' → LJ V' D' E' → Qr 1 S') : R_L_step_678 x k S Qr Qx := by
  obtain ⟨hI, hX, ⟨d0, d1, d2⟩, hE, hm, h32⟩ := id hL
  have q1 := td_rg (b := 7) hx (by decide)
  have q2 := tm_rg (b := 199) q1.1 (by decide)
  have ht := hI.2.2.2.1
  refine vc_L_step_678 fun rx _ _ => ?_
  obtain ⟨v, hv⟩ : ∃ v : Int, v = Int.tmod (Int.tdiv x 7) 199 - 99 := ⟨_, rfl⟩
  rw [← hv]
  have hv2 : -99 ≤ v ∧ v ≤ 99 := by omega
  refine ⟨⟨by omega, by omega⟩, ⟨by omega, by omega⟩, sA_stress hI h hv2 (fun hk S' hI' l => ?_) (fun hk S' l => ?_)⟩
  · have hk2 := ht k
    refine fun _ _ => ⟨fun q => by omega, fun _ => ⟨fun q => by omega, fun _ => sA_stress hI' l hv2 (fun hk' S2 hI2 l2 => ?_) (fun hk' => absurd hk hk')⟩⟩
    have e : up V 14 k v 14 k = v := by rw [up_at, if_pos rfl]
    refine fun _ _ => ⟨fun q => absurd e q, fun _ => hQ _ _ _ _ l2 (LJ_same hL hI2 rfl rfl rfl rfl rfl fun j hj => ?_)⟩
    have hlt := hk.2.1
    refine ⟨(hX j hj).1, ?_⟩
    rw [up_at, if_neg (by omega), up_at, if_neg (by omega)]
    exact (hX j hj).2
  · exact fun _ _ => ⟨fun _ => hQ _ _ _ _ l hL, fun q => absurd rfl q⟩
theorem st_754 {x j : Int} (hL : LJ V D E) (h : lv S V D E) (hx : 0 ≤ x) (hj : 0 ≤ j ∧ j < V 1 0) (hQ : ∀ S' V' D' E', lv S' V' D' E' → LJ V' D' E' → Qr 1 S') : R_L_step_754 x j S Qr Qx := by
  obtain ⟨hI, hX, ⟨d0, d1, d2⟩, hE, hm, h32⟩ := id hL
  have q1 := td_rg (b := 4) hx (by decide)
  have q2 := tm_rg (b := 9000) q1.1 (by decide)
  have q3 := tm_rg (b := 4) hx (by decide)
  have hr := hI.2.2.1
  have fin : ∀ a : Int, Inv (up (up V 10 j a) 10 j a) → LJ (up (up V 10 j a) 10 j a) D E := fun a hI' => LJ_same hL hI' rfl rfl rfl rfl rfl hX
  have e : ∀ a : Int, up V 10 j a 10 j = a := fun a => by rw [up_at, if_pos rfl]
  have hr0 := hr j
  refine vc_L_step_754 fun rx _ _ => ⟨⟨by omega, by omega⟩, fun q => ⟨⟨by omega, by omega⟩, ⟨by omega, by omega⟩, cl_range hI h hj ⟨by omega, by omega⟩ fun S1 i1 m1 _ _ => ⟨fun w => by omega, fun _ => ⟨fun _ => cl_range i1 m1 hj ⟨by omega, by omega⟩ fun S2 i2 m2 _ _ => ⟨fun _ => ⟨fun w => absurd (e _) w, fun _ => hQ _ _ _ _ m2 (fin _ i2)⟩, fun z => absurd z q⟩, fun z => absurd z q⟩⟩⟩, fun q => cl_range hI h hj ⟨by decide, by decide⟩ fun S1 i1 m1 _ _ => ⟨fun w => by omega, fun _ => ⟨fun z => absurd q z, fun _ => cl_range i1 m1 hj ⟨by decide, by decide⟩ fun S2 i2 m2 _ _ => ⟨fun z => absurd q z, fun _ => ⟨fun w => absurd (e _) w, fun _ => hQ _ _ _ _ m2 (fin _ i2)⟩⟩⟩⟩⟩
theorem sL_arePlaces {e : Int} (hI : Inv V) (h : lv S V D E) (he : 0 ≤ e ∧ e ≤ 400) (hQ : ∀ S', lv S' V D E → Qr 1 S') : M_L_arePlaces e S Qr Qx := by
  have he1 : 0 ≤ e ∧ e ≤ 5000 := by omega
  have he2 : 0 ≤ e + 1 ∧ e + 1 ≤ 5000 := by omega
  obtain ⟨⟨p1, p2⟩, p3, p4, p5⟩ := places_ok (V := V) (e := e)
  have hmono := pc_mono (V := V) (e := e) (e' := e + 1) (by omega) 14762 (-60) (-60) 0 0 (Int.le_refl _)
  have tail : ∀ (S' : St), lv S' V D E → ∀ s0 : Int, (pcN V e 14762 (-60) (-60) 0 = 0 → s0 = -1) → (pcN V e 14762 (-60) (-60) 0 ≠ 0 → s0 = plN V e 14762 (-60) (-60) (pcN V e 14762 (-60) (-60) 0 - 1)) → R_L_arePlaces_29 e (pcN V e 14762 (-60) (-60) 0) (plN V e 14762 (-60) (-60) 0) s0 S' Qr Qx := fun S' l s0 z0 z1 => by
    have f0 : pcN V e 14762 (-60) (-60) 0 = 0 → plN V e 14762 (-60) (-60) 0 = -1 := fun z => p3 0 (by decide) (by omega)
    have f1 : pcN V e 14762 (-60) (-60) 0 ≠ 0 → 0 ≤ plN V e 14762 (-60) (-60) 0 := fun z => p4 0 (by decide) (by omega)
    have f2 : plN V e 14762 (-60) (-60) 0 ≤ s0 := by
      by_cases q : pcN V e 14762 (-60) (-60) 0 = 0
      · rw [z0 q, f0 q]; exact Int.le_refl _
      · rw [z1 q]
        by_cases q2 : pcN V e 14762 (-60) (-60) 0 = 1
        · rw [q2]; exact Int.le_refl _
        · exact Int.le_of_lt (p5 0 (pcN V e 14762 (-60) (-60) 0 - 1) (by decide) (by omega) (by omega))
    have f3 : 2 ≤ pcN V e 14762 (-60) (-60) 0 → plN V e 14762 (-60) (-60) 0 < plN V e 14762 (-60) (-60) 1 := fun z => p5 0 1 (by decide) (by decide) (by omega)
    have f4 := p3 (pcN V e 14762 (-60) (-60) 0) p1 (Int.le_refl _)
    refine vc_L_arePlaces_29 fun _ _ _ _ _ => ⟨fun q => by omega, fun _ => ⟨fun q => by omega, fun _ => cl_place hI l he1 p1 fun S2 m2 _ _ => ⟨fun q => absurd f4 q, fun _ => ⟨fun q => ⟨fun _ => ⟨fun w => by omega, fun _ => ⟨fun w => ⟨⟨by omega, by omega⟩, cl_places hI m2 he2 fun S3 m3 _ _ => ⟨fun y => by omega, fun _ => hQ _ m3⟩⟩, fun w => cl_place hI m2 he1 (by decide) fun S3 m3 _ _ => ⟨fun y => ?_, fun _ => ⟨⟨by omega, by omega⟩, cl_places hI m3 he2 fun S4 m4 _ _ => ⟨fun y => by omega, fun _ => hQ _ m4⟩⟩⟩⟩⟩, fun w => ?_⟩, fun q => ⟨fun w => absurd (f0 q) w, fun _ => ⟨fun w => by omega, fun _ => ⟨fun w => ⟨⟨by omega, by omega⟩, cl_places hI m2 he2 fun S3 m3 _ _ => ⟨fun y => by omega, fun _ => hQ _ m3⟩⟩, fun w => by omega⟩⟩⟩⟩⟩⟩⟩
    · have := f3 w; omega
    · have := f1 q; omega
  refine vc_L_arePlaces fun _ _ => cl_places hI h he1 fun S1 m1 _ _ => cl_place hI m1 he1 (by decide) fun S2 m2 _ _ => ⟨fun q => ⟨⟨by omega, by omega⟩, cl_place hI m2 he1 (by omega) fun S3 m3 _ _ => tail _ m3 _ (fun z => absurd z q) (fun _ => rfl)⟩, fun q => tail _ m2 _ (fun _ => rfl) (fun z => absurd q z)⟩
theorem st_840 {x : Int} (hL : LJ V D E) (h : lv S V D E) (hx : 0 ≤ x) (hQ : ∀ S' V' D' E', lv S' V' D' E' → LJ V' D' E' → Qr 1 S') : R_L_step_840 x S Qr Qx := by
  have q2 := tm_rg (b := 400) hx (by decide)
  exact vc_L_step_840 fun _ _ => ⟨⟨by omega, by omega⟩, sL_arePlaces hL.1 h ⟨by omega, by omega⟩ fun S' l _ _ => ⟨⟨by decide, by decide⟩, hQ _ _ _ _ l hL⟩⟩
theorem st_851 {x : Int} (hL : LJ V D E) (h : lv S V D E) (hx : 0 ≤ x) (h3 : 3 ≤ V 1 0) (hQ : ∀ S' V' D' E', lv S' V' D' E' → LJ V' D' E' → Qr 1 S') : R_L_step_851 x S Qr Qx := by
  have q2 := tm_rg (b := 1000003) hx (by decide)
  obtain ⟨hI, hX, ⟨d0, d1, d2⟩, hE, hm, h32⟩ := id hL
  have n10 := hI.1.2.1
  have hk := kc_le2 hI (by omega)
  obtain ⟨e0, e1, e2⟩ := PJ_at hL h
  refine vc_L_step_851 fun _ _ => ?_
  rw [e0]
  refine ⟨⟨by omega, by omega⟩, cl_rankAt hI h ⟨by omega, by omega⟩ fun r hr S1 m1 _ _ => ⟨⟨by omega, by omega⟩, fun q => by omega, fun _ => cl_rankAt hI m1 ⟨by omega, by omega⟩ fun r2 hr2 S2 m2 _ _ => cl_kept hI m2 fun S3 m3 _ _ => ⟨fun q => by omega, fun _ => cl_matrix hI m3 fun r4 r40 r41 S4 m4 _ _ => ⟨fun q => by omega, fun _ => cl_isGlobal hI m4 fun r5 hr5 S5 m5 _ _ => ⟨fun _ => hQ _ _ _ _ m5 hL, fun q => cl_lacks hI m5 fun S6 m6 _ _ => ⟨fun _ => hQ _ _ _ _ m6 hL, fun w => ?_⟩⟩⟩⟩⟩⟩
  have hg := global_rigid hI h3 (hr5 q)
  rw [if_neg (by omega)] at w
  exact absurd hg w
end ST2
