/-! THE LAW ON BALANCES: the loop -/
section NOT
variable {S V : St} {D E : Int → Int} {Qr : Int → St → Prop} {Qx : String → St → Prop}
theorem nt_unit {V : St} {x : Int} (hI : Inv V) (hx : isFreeC (bl V).2.2 (cn (mKept V (-1)) (V 2 0)) 0 x) : 0 < cn (bu V x) (V 2 0) := by
  have m0 := hI.1.2.2.1
  obtain ⟨x0, x1, x2, _⟩ := hx
  obtain ⟨k, k0, k1, k2, k3⟩ := row_of m0 x0 x1
  have e : bu V x k = true := decide_eq_true ⟨(mK_iff k0).1 k2, by
    unfold bq sol
    rw [← cn_kt k0, k3, if_neg (fun z => z x2), if_pos rfl]⟩
  have := cn_pos k0 k1 e
  omega
theorem pin_back {V : St} {j : Int} : up (up V 9 j 1) 9 j (V 9 j) = V := by
  funext i b
  unfold up
  by_cases q : i = 9
  · rw [if_pos q]
    by_cases q2 : b = j
    · rw [if_pos q2, q, q2]
    · rw [if_neg q2, if_pos q, if_neg q2]
  · rw [if_neg q, if_neg q]
theorem nt_loop {j x : Int} (hL : LJ V D E) (hj : 0 ≤ j ∧ j < V 1 0) (hs : 0 < cn (mKept V (-1)) (V 2 0) - (bl V).2.1) (hx : isFreeC (bl V).2.2 (cn (mKept V (-1)) (V 2 0)) 0 x) (hQ : ∀ S', lv S' V D E → Qr 1 S') : ∀ (d : Nat) (k : Int) (q : Nat) (S : St), k + d = V 2 0 → 0 ≤ k → (q : Int) ≤ 10 * k → lv S V D E → R_L_isNothing_12 q j (sm (bt V 7 x j) k) (sm (bt V 8 x j) k) (cn (bu V x) k) k S Qr Qx := by
  obtain ⟨hI, hX, ⟨d0, d1, d2⟩, hE, hmm, h32⟩ := id hL
  obtain ⟨n0, n10, m0, m40, hEE⟩ := hI.1
  have hPt := hI.2.1.2.2
  intro d
  induction d with
  | zero =>
    intro k q S hk k0 hq h
    have ek : k = V 2 0 := by omega
    have e1 := (PJ_at hL h).2.1
    refine vc_L_isNothing_12 fun _ _ _ _ _ _ hok => ?_
    rw [e1]
    have h9 : 0 ≤ V 9 j ∧ V 9 j ≤ 1 := by
      have e : V 9 j = S 9 j := by rw [← h.1]; rfl
      rw [e]; exact hok 9 j
    have hu := nt_unit hI hx
    rw [ek]
    refine ⟨fun _ => cl_pin hI h hj ⟨by decide, by decide⟩ fun S1 i1 m1 _ _ => cl_pin i1 m1 hj h9 fun S2 i2 m2 _ _ => ?_, fun z => by omega⟩
    rw [pin_back] at m2
    have e9 : up V 9 j 1 9 j = 1 := by rw [up_at, if_pos rfl]
    rw [e9]
    refine ⟨fun z => absurd z (by decide), fun _ => ⟨fun _ => ⟨fun z => by omega, fun _ => hQ _ m2⟩, fun z => ?_⟩⟩
    obtain ⟨g1, g2⟩ := bal_ker hI hx.1 hx.2.1 hx.2.2.1 hj z
    have t1 : Int.tmod (sm (bt V 7 x j) (V 2 0)) 1000003 = 0 := Int.tmod_eq_zero_of_dvd g1
    have t2 : Int.tmod (sm (bt V 8 x j) (V 2 0)) 1000003 = 0 := Int.tmod_eq_zero_of_dvd g2
    rw [t1, t2]
    exact ⟨⟨by decide, by decide⟩, fun z => absurd rfl z, fun _ => ⟨⟨by decide, by decide⟩, fun z => absurd rfl z, fun _ => ⟨fun z => by omega, fun _ => hQ _ m2⟩⟩⟩
  | succ d ih =>
    intro k q S hk k0 hq h
    have hlt : k < V 2 0 := by omega
    have e1 := (PJ_at hL h).2.1
    have sX := sm_s (f := bt V 7 x j) k0
    have sY := sm_s (f := bt V 8 x j) k0
    have sU := cn_s (p := bu V x) k0
    have bX := sm_abs (f := bt V 7 x j) (c := 100000200) k.toNat k (by omega) (fun i i0 i1 => bt_rg hI (Or.inl rfl) hj i0 (by omega))
    have bY := sm_abs (f := bt V 8 x j) (c := 100000200) k.toNat k (by omega) (fun i i0 i1 => bt_rg hI (Or.inr rfl) hj i0 (by omega))
    have bX1 := bt_rg (g := 7) (x := x) hI (Or.inl rfl) hj k0 hlt
    have bY1 := bt_rg (g := 8) (x := x) hI (Or.inr rfl) hj k0 hlt
    have bU := cn_rng (bu V x) k0
    have f1 : ∀ S', lv S' V D E → S' 71 (2 * k) = V 11 k ∧ S' 71 (2 * k + 1) = V 12 k := fun S' l => by
      rw [l.2.2]; exact hE k k0 hlt
    -- the end of a turn
    have h159 : ∀ (q' : Nat) (S' : St) (has : Int), (q' : Int) ≤ 10 * k + 10 → lv S' V D E → (has = 1 ↔ bu V x k = true) → R_L_isNothing_159 q' j (sm (bt V 7 x j) (k + 1)) (sm (bt V 8 x j) (k + 1)) (cn (bu V x) k) k has S' Qr Qx := fun q' S' has hq' l hh => by
      have hn := ih (k + 1) q' S' (by omega) (by omega) (by omega) l
      refine vc_L_isNothing_159 fun _ _ _ _ _ _ _ _ => ⟨fun z => ⟨⟨by omega, by omega⟩, ⟨by omega, by omega⟩, by omega, ?_⟩, fun z => ⟨⟨by omega, by omega⟩, ⟨by omega, by omega⟩, by omega, ?_⟩⟩
      · rw [sU, if_neg (fun w => z (hh.2 w))] at hn
        exact hn
      · rw [sU, if_pos (hh.1 z)] at hn
        exact hn
    have h126 : ∀ (q' : Nat) (S' : St) (has t : Int) (b : Bool), (q' : Int) ≤ 10 * k + 6 → lv S' V D E → (has = 1 ↔ bu V x k = true) → (b = true → mEnd V j k = true ∧ has = bq V x k ∧ t = oth V j k) → (b = false → mEnd V j k = false) → R_L_isNothing_126 q' j (sm (bt V 7 x j) (k + 1)) (sm (bt V 8 x j) k) (cn (bu V x) k) k has (bi b) t S' Qr Qx := fun q' S' has t b hq' l hh hb1 hb0 => by
      refine vc_L_isNothing_126 fun _ _ _ _ _ _ r10 _ _ _ => ⟨fun z => ?_, fun z => ?_⟩
      · have hb : b = false := by cases b; rfl; exact absurd z (by decide)
        have e : bt V 8 x j k = 0 := by unfold bt; rw [hb0 hb]; exact if_neg (by decide)
        have hn := h159 q' S' has (by omega) l hh
        rw [sY, e] at hn
        exact ⟨⟨by omega, by omega⟩, by omega, hn⟩
      · have hb : b = true := by cases b; exact absurd rfl z; rfl
        obtain ⟨c1, c2, c3⟩ := hb1 hb
        have c1' := of_decide_eq_true c1
        obtain ⟨b1, b2, b3, b4, b5, b6⟩ := hEE k k0 hlt
        obtain ⟨b7, b8⟩ := b6 c1'.1
        have ho : 0 ≤ t ∧ t < V 1 0 := by rw [c3]; unfold oth; split <;> omega
        have p1 := hPt j hj.1 hj.2
        have p2 := hPt t ho.1 ho.2
        have e : bt V 8 x j k = has * (V 8 j - V 8 t) := by unfold bt; rw [if_pos c1, c2, c3]
        refine cl_of1 hI l hj fun S1 m1 _ _ => cl_of1 hI m1 ho fun S2 m2 _ _ => ⟨⟨by omega, by omega⟩, ⟨by omega, by omega⟩, by omega, ?_⟩
        have hn := h159 (q' + 4) _ has (by omega) m2 hh
        rw [sY, e] at hn
        exact hn
    have h91 : ∀ (q' : Nat) (S' : St) (has t : Int) (b : Bool), (q' : Int) ≤ 10 * k + 2 → lv S' V D E → (has = 1 ↔ bu V x k = true) → (b = true → mEnd V j k = true ∧ has = bq V x k ∧ t = oth V j k) → (b = false → mEnd V j k = false) → R_L_isNothing_91 q' j (sm (bt V 7 x j) k) (sm (bt V 8 x j) k) (cn (bu V x) k) k has (bi b) t S' Qr Qx := fun q' S' has t b hq' l hh hb1 hb0 => by
      refine vc_L_isNothing_91 fun _ _ _ _ _ _ r10 _ _ _ => ⟨fun z => ?_, fun z => ?_⟩
      · have hb : b = false := by cases b; rfl; exact absurd z (by decide)
        have e : bt V 7 x j k = 0 := by unfold bt; rw [hb0 hb]; exact if_neg (by decide)
        have hn := h126 q' S' has t b (by omega) l hh hb1 hb0
        rw [sX, e] at hn
        exact ⟨⟨by omega, by omega⟩, by omega, hn⟩
      · have hb : b = true := by cases b; exact absurd rfl z; rfl
        obtain ⟨c1, c2, c3⟩ := hb1 hb
        have c1' := of_decide_eq_true c1
        obtain ⟨b1, b2, b3, b4, b5, b6⟩ := hEE k k0 hlt
        obtain ⟨b7, b8⟩ := b6 c1'.1
        have ho : 0 ≤ t ∧ t < V 1 0 := by rw [c3]; unfold oth; split <;> omega
        have p1 := hPt j hj.1 hj.2
        have p2 := hPt t ho.1 ho.2
        have e : bt V 7 x j k = has * (V 7 j - V 7 t) := by unfold bt; rw [if_pos c1, c2, c3]
        refine cl_of0 hI l hj fun S1 m1 _ _ => cl_of0 hI m1 ho fun S2 m2 _ _ => ⟨⟨by omega, by omega⟩, ⟨by omega, by omega⟩, by omega, ?_⟩
        have hn := h126 (q' + 4) _ has t b (by omega) m2 hh hb1 hb0
        rw [sX, e] at hn
        exact hn
    have h62 : ∀ (q' : Nat) (S' : St) (has : Int) (b : Bool), (q' : Int) ≤ 10 * k + 2 → lv S' V D E → (has = 1 ↔ bu V x k = true) → (b = true → mEnd V j k = true ∧ has = bq V x k) → (b = false → mEnd V j k = false) → R_L_isNothing_62 q' j (sm (bt V 7 x j) k) (sm (bt V 8 x j) k) (cn (bu V x) k) k has (bi b) S' Qr Qx := fun q' S' has b hq' l hh hb1 hb0 => by
      obtain ⟨a1, a2⟩ := f1 S' l
      refine vc_L_isNothing_62 fun _ _ _ _ _ _ _ _ _ => ?_
      rw [a1, a2]
      refine ⟨⟨by omega, by omega⟩, fun z => ⟨by omega, h91 q' S' has _ b hq' l hh (fun w => ⟨(hb1 w).1, (hb1 w).2, ?_⟩) hb0⟩, fun z => ⟨⟨by omega, by omega⟩, by omega, h91 q' S' has _ b hq' l hh (fun w => ⟨(hb1 w).1, (hb1 w).2, ?_⟩) hb0⟩⟩
      · unfold oth; rw [if_neg z]
      · unfold oth; rw [if_pos z]
    refine vc_L_isNothing_12 fun _ _ _ _ _ _ _ => ?_
    rw [e1]
    refine ⟨fun z => by omega, fun _ => sA_balance hI h (fun ht r hr S' l => ?_) (fun hn S' l => ?_)⟩
    · have er : r = bq V x k := by
        rcases hr with ⟨z, _⟩ | ⟨_, x', z, e⟩
        · omega
        · rw [e, isFreeC_uniq z hx]; rfl
      have hrg := bq_rg (V := V) (x := x) (i := k)
      have hh : r = 1 ↔ bu V x k = true := by
        rw [er]
        exact ⟨fun z => decide_eq_true ⟨ht.2.2, z⟩, fun z => (of_decide_eq_true z).2⟩
      obtain ⟨a1, a2⟩ := f1 S' l
      intro _ _
      rw [a1, a2]
      refine ⟨fun z => by omega, fun _ => ⟨⟨by omega, by omega⟩, fun z => ⟨by omega, h62 (q + 2) S' r true (by omega) l hh (fun _ => ⟨decide_eq_true ⟨ht.2.2, Or.inl z⟩, er⟩) (fun w => absurd w (by decide))⟩, fun z => ⟨⟨by omega, by omega⟩, fun z2 => ⟨by omega, h62 (q + 2) S' r false (by omega) l hh (fun w => absurd w (by decide)) (fun _ => decide_eq_false fun w => ?_)⟩, fun z2 => ⟨by omega, h62 (q + 2) S' r true (by omega) l hh (fun _ => ⟨decide_eq_true ⟨ht.2.2, Or.inr z2⟩, er⟩) (fun w => absurd w (by decide))⟩⟩⟩⟩
      have := w.2
      omega
    · have hnp : ¬ V 15 k = 0 := fun z => hn ⟨k0, hlt, z⟩
      have hh : (-200 : Int) = 1 ↔ bu V x k = true := ⟨fun z => absurd z (by decide), fun z => absurd (of_decide_eq_true z).1 hnp⟩
      exact fun _ _ => ⟨fun _ => ⟨by omega, h62 (q + 2) S' (-200) false (by omega) l hh (fun w => absurd w (by decide)) (fun _ => decide_eq_false fun w => hnp w.1)⟩, fun z => absurd z (by decide)⟩
theorem sL_isNothing {j : Int} (hL : LJ V D E) (h : lv S V D E) (hj : 0 ≤ j ∧ j < V 1 0) (hs : 0 < cn (mThere V) (V 2 0) - rk V (-1)) (hQ : ∀ S', lv S' V D E → Qr 1 S') : M_L_isNothing j S Qr Qx := by
  obtain ⟨h1, x, hx⟩ := bal_free hL.1 hs
  have m0 := hL.1.1.2.2.1
  exact vc_L_isNothing fun _ _ => nt_loop hL hj h1 hx hQ (V 2 0).toNat 0 0 S (by omega) (by omega) (by omega) h
end NOT
