/-! STEPS of the law: joints, members, removals, pins, moves -/
section ST1
variable {S V : St} {D E : Int → Int} {Qr : Int → St → Prop} {Qx : String → St → Prop}
theorem deg_pos {V : St} {a b k : Int} (ht : thr V k) (hp : mPair V a b k) : 0 < cn (mEnd V a) (V 2 0) := by
  have := cn_pos (p := mEnd V a) ht.1 ht.2.1 (decide_eq_true ⟨ht.2.2, by have := hp.2; omega⟩)
  omega
theorem deg_new {V : St} {j : Int} (hI : Inv V) (hj : V 1 0 ≤ j) : cn (mEnd V j) (V 2 0) = 0 := cn_false hI.1.2.2.1 fun k k0 k1 => decide_eq_false fun z => by
  obtain ⟨b1, b2, b3, b4, b5, b6⟩ := hI.1.2.2.2.2 k k0 k1
  have := b6 z.1
  omega
theorem st_168 {x y : Int} (hL : LJ V D E) (h : lv S V D E) (hp : inPt x y) (hQ : ∀ S' V' D' E', lv S' V' D' E' → LJ V' D' E' → Qr 1 S') : R_L_step_168 x y S Qr Qx := by
  obtain ⟨hI, hX, ⟨d0, d1, d2⟩, hE, hm, h32⟩ := id hL
  obtain ⟨n0, n10, m0, _⟩ := hI.1
  refine vc_L_step_168 fun _ _ _ => sL_joints hI h hp (fun hn S' hI' l => ?_) (fun hn S' l => ?_)
  · intro _ _
    have e0 : S' 70 0 = V 1 0 := by rw [l.2.1]; exact d0
    rw [e0]
    have l1 := lv_70 (i := 0) (v := V 1 0 + 1) l
    have hj : 0 ≤ V 1 0 ∧ V 1 0 < updJ V x y 1 0 := ⟨n0, by show V 1 0 < V 1 0 + 1; omega⟩
    have e7 : updJ V x y 7 (V 1 0) = x := by show (if V 1 0 = V 1 0 then x else V 7 (V 1 0)) = x; rw [if_pos rfl]
    have e8 : updJ V x y 8 (V 1 0) = y := by show (if V 1 0 = V 1 0 then y else V 8 (V 1 0)) = y; rw [if_pos rfl]
    have e2 : cn (mEnd (updJ V x y) (V 1 0)) (updJ V x y 2 0) = 0 := deg_new (V := V) hI (Int.le_refl _)
    refine ⟨fun _ => ⟨⟨by omega, by omega⟩, fun _ => ⟨⟨by omega, by omega⟩, fun q => absurd (show V 1 0 = V 1 0 + 1 - 1 by omega) q, fun _ => ?_⟩, fun q => by omega⟩, fun q => by omega⟩
    refine cl_of0 hI' l1 hj fun S1 m1 _ _ => ⟨fun q => absurd e7 q, fun _ => cl_of1 hI' m1 hj fun S2 m2 _ _ => ⟨fun q => absurd e8 q, fun _ => cl_of2 hI' m2 hj fun S3 m3 _ _ => ⟨fun q => absurd e2 q, fun _ => hQ _ _ _ _ m3 ?_⟩⟩⟩
    refine ⟨hI', hX, ⟨?_, ?_, ?_⟩, hE, Int.le_refl _, h32⟩
    · show (if (0 : Int) = 0 then V 1 0 + 1 else D 0) = V 1 0 + 1
      rw [if_pos rfl]
    · show (if (1 : Int) = 0 then V 1 0 + 1 else D 1) = V 2 0
      rw [if_neg (by decide)]; exact d1
    · show (if (2 : Int) = 0 then V 1 0 + 1 else D 2) = V 3 0
      rw [if_neg (by decide)]; exact d2
  · intro _ _
    have e0 : S' 70 0 = V 1 0 := by rw [l.2.1]; exact d0
    rw [e0]
    refine ⟨fun q => absurd rfl q, fun _ => ⟨⟨by omega, by omega⟩, fun q => absurd rfl q, fun _ => ⟨fun q => absurd (show V 1 0 + 0 = 10 by omega) q, fun _ => hQ _ _ _ _ (lv_70 (i := 0) (v := V 1 0 + 0) l) ?_⟩⟩⟩
    refine ⟨hI, hX, ⟨?_, ?_, ?_⟩, hE, Int.le_refl _, h32⟩
    · show (if (0 : Int) = 0 then V 1 0 + 0 else D 0) = V 1 0
      rw [if_pos rfl, Int.add_zero]
    · show (if (1 : Int) = 0 then V 1 0 + 0 else D 1) = V 2 0
      rw [if_neg (by decide)]; exact d1
    · show (if (2 : Int) = 0 then V 1 0 + 0 else D 2) = V 3 0
      rw [if_neg (by decide)]; exact d2
theorem st_269 {x a b : Int} (hL : LJ V D E) (h : lv S V D E) (hx : 0 ≤ x) (ha : 0 ≤ a ∧ a < V 1 0) (hb : 0 ≤ b ∧ b < V 1 0) (h2 : 2 ≤ V 1 0) (hQ : ∀ S' V' D' E', lv S' V' D' E' → LJ V' D' E' → Qr 1 S') : R_L_step_269 x a b S Qr Qx := by
  obtain ⟨hI, hX, ⟨d0, d1, d2⟩, hE, hm, h32⟩ := id hL
  obtain ⟨n0, n10, m0, _⟩ := hI.1
  obtain ⟨e0, e1, e2⟩ := PJ_at hL h
  have ht := tm_rg (b := 3) hx (by decide)
  refine vc_L_step_269 fun _ _ _ _ => ?_
  rw [e0, e1]
  refine ⟨fun hne => ⟨⟨by omega, by omega⟩, sL_member hI h ha hb (by omega) (by omega) (fun e S' l => ?_) (fun e hk S' l => ?_) (fun e S' hI' l => ?_)⟩, fun _ => cl_kept hI h fun S1 m1 _ _ => ⟨⟨by omega, by omega⟩, fun q => ?_, fun _ => hQ _ _ _ _ m1 hL⟩⟩
  · exact fun _ _ => ⟨fun q => absurd q (by decide), fun _ => ⟨fun _ => hQ _ _ _ _ l hL, fun q => absurd e q⟩⟩
  · refine fun _ _ => ⟨fun q => absurd q (by decide), fun _ => ⟨fun q => absurd q e, fun _ => cl_of2 hI l ha fun S1 m1 _ _ => ⟨fun q => ?_, fun _ => hQ _ _ _ _ m1 hL⟩⟩⟩
    obtain ⟨k, k1, k2⟩ := hk
    have := deg_pos k1 k2
    omega
  · refine fun _ _ => ⟨fun _ => ?_, fun q => by omega⟩
    have hP : PJ (updM V a b (Int.tmod x 3)) D E (V 2 0) := by
      refine ⟨hI', fun k hk => hX k (by have hk' : V 2 0 + 1 ≤ k := hk; omega), ⟨d0, d1, d2⟩, fun k k0 k1 => ?_, by show V 2 0 ≤ V 2 0 + 1; omega, by show V 2 0 + 1 ≤ 32; omega⟩
      show E (2 * k) = (if k = V 2 0 then a else V 11 k) ∧ E (2 * k + 1) = (if k = V 2 0 then b else V 12 k)
      rw [if_neg (by omega), if_neg (by omega)]
      exact hE k k0 k1
    refine sP_isSet hP l ⟨m0, by show V 2 0 < V 2 0 + 1; omega, (hX _ (Int.le_refl _)).1⟩ (hX _ (Int.le_refl _)).2 ?_ ?_ fun S1 D1 E1 l1 hP1 _ _ => ⟨⟨by decide, by decide⟩, hQ _ _ _ _ l1 hP1⟩
    · show a = (if V 2 0 = V 2 0 then a else V 11 (V 2 0))
      rw [if_pos rfl]
    · show b = (if V 2 0 = V 2 0 then b else V 12 (V 2 0))
      rw [if_pos rfl]
  · have := kc_le2 hI h2
    omega
theorem st_356 {k : Int} (hL : LJ V D E) (h : lv S V D E) (hQ : ∀ S' V' D' E', lv S' V' D' E' → LJ V' D' E' → Qr 1 S') : R_L_step_356 k S Qr Qx := by
  obtain ⟨hI, hX, ⟨d0, d1, d2⟩, hE, hm, h32⟩ := id hL
  have m0 := hI.1.2.2.1
  have hr := kc_rg V (-1)
  refine vc_L_step_356 fun _ _ => cl_kept hI h fun S1 m1 _ _ => sA_remove hI m1 (fun ht S' hI' l => ?_) (fun hn S' l => ?_)
  · have hg := kc_gone hI ht.1 ht.2.1
    have hc := cn_rng (mThere (up V 15 k 1)) m0
    have e15 : up V 15 k 1 15 k = 1 := by rw [up_at, if_pos rfl]
    have hL' : LJ (up V 15 k 1) D E := LJ_same hL hI' rfl rfl rfl rfl rfl fun j hj => by
      have hlt := ht.2.1
      refine ⟨?_, (hX j hj).2⟩
      rw [up_at, if_neg (by omega)]
      exact (hX j hj).1
    refine fun _ _ => ⟨fun _ => ⟨fun q => by omega, fun _ => cl_kept hI' l fun S2 m2 _ _ => ⟨fun q => by omega, fun _ => cl_kept hI' m2 fun S3 m3 _ _ => ⟨⟨by omega, by omega⟩, fun q => by omega, fun _ => sA_remove hI' m3 (fun ht' => ?_) (fun _ S4 l4 _ _ => ⟨fun q => absurd rfl q, fun _ => hQ _ _ _ _ l4 hL'⟩)⟩⟩⟩, fun q => by omega⟩
    have := ht'.2.2
    rw [e15] at this
    exact absurd this (by decide)
  · exact fun _ _ => ⟨fun q => absurd rfl q, fun _ => cl_kept hI l fun S2 m2 _ _ => ⟨fun q => absurd rfl q, fun _ => hQ _ _ _ _ m2 hL⟩⟩
theorem st_442 {x j : Int} (hL : LJ V D E) (h : lv S V D E) (hx : 0 ≤ x) (hj : 0 ≤ j ∧ j < V 1 0) (hQ : ∀ S' V' D' E', lv S' V' D' E' → LJ V' D' E' → Qr 1 S') : R_L_step_442 x j S Qr Qx := by
  obtain ⟨hI, hX, ⟨d0, d1, d2⟩, hE, hm, h32⟩ := id hL
  have ht := tm_rg (b := 3) hx (by decide)
  have hrk : ∀ V' : St, Inv V' → 0 ≤ rk V' (-1) := fun V' hI' => (rk_rg hI').1
  have fin : ∀ a : Int, Inv (up (up V 9 j a) 9 j a) → LJ (up (up V 9 j a) 9 j a) D E := fun a hI' => LJ_same hL hI' rfl rfl rfl rfl rfl hX
  refine vc_L_step_442 fun _ _ _ => ⟨⟨by omega, by omega⟩, fun q => ?_, fun q => ?_⟩
  · refine cl_pin hI h hj ⟨by decide, by decide⟩ fun S1 i1 m1 _ _ => ⟨fun _ => cl_pin i1 m1 hj ⟨by decide, by decide⟩ fun S2 i2 m2 _ _ => ⟨fun _ => ⟨fun w => absurd (by rw [up_at, if_pos rfl] : up V 9 j 0 9 j = 0) w, fun _ => ⟨fun _ => hQ _ _ _ _ m2 (fin 0 i2), fun _ => cl_rank i2 m2 fun S3 m3 _ _ => ⟨fun w => ?_, fun _ => hQ _ _ _ _ m3 (fin 0 i2)⟩⟩⟩, fun z => absurd z q⟩, fun z => absurd z q⟩
    have := hrk _ i2
    omega
  · refine cl_pin hI h hj ⟨by decide, by decide⟩ fun S1 i1 m1 _ _ => ⟨fun z => absurd q z, fun _ => cl_pin i1 m1 hj ⟨by decide, by decide⟩ fun S2 i2 m2 _ _ => ⟨fun z => absurd q z, fun _ => ⟨fun w => absurd (by rw [up_at, if_pos rfl] : up V 9 j 1 9 j = 1) w, fun _ => ⟨fun _ => hQ _ _ _ _ m2 (fin 1 i2), fun _ => cl_rank i2 m2 fun S3 m3 _ _ => ⟨fun w => ?_, fun _ => hQ _ _ _ _ m3 (fin 1 i2)⟩⟩⟩⟩⟩
    have := hrk _ i2
    omega
theorem st_513 {j x y : Int} (hL : LJ V D E) (h : lv S V D E) (hj : 0 ≤ j ∧ j < V 1 0) (hp : inPt x y) (hQ : ∀ S' V' D' E', lv S' V' D' E' → LJ V' D' E' → Qr 1 S') : R_L_step_513 j x y S Qr Qx := by
  obtain ⟨hI, hX, ⟨d0, d1, d2⟩, hE, hm, h32⟩ := id hL
  refine vc_L_step_513 fun _ _ _ _ => cl_move hI h hj hp fun S1 i1 m1 _ _ => cl_of0 i1 m1 hj fun S2 m2 _ _ => ⟨fun w => absurd ?_ w, fun _ => cl_of1 i1 m2 hj fun S3 m3 _ _ => ⟨fun w => absurd ?_ w, fun _ => hQ _ _ _ _ m3 (LJ_same hL i1 rfl rfl rfl rfl rfl hX)⟩⟩
  · rw [up_ne _ (by decide), up_at, if_pos rfl]
  · rw [up_at, if_pos rfl]
end ST1
