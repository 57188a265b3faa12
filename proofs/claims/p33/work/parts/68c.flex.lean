/-! FLEXES keep members; BALANCES make nothing -/
section FLX
theorem flexAt_0 {s : Mx × Int × (Int → Int)} {V : St} {x j : Int} : flexAt s V x j 0 = atX (lc V) (sol s.1 s.2.2 x) j := by
  unfold flexAt atX
  rw [if_pos rfl, Int.add_zero]
theorem flexAt_1 {s : Mx × Int × (Int → Int)} {V : St} {x j : Int} : flexAt s V x j 1 = atY (lc V) (sol s.1 s.2.2 x) j := by
  unfold flexAt atY
  rw [if_neg (by decide : ¬(1 : Int) = 0)]
theorem flex_ker {V : St} {x k : Int} (hI : Inv V) (k0 : 0 ≤ k) (k1 : k < V 2 0) (hk : V 15 k = 0) (x0 : 0 ≤ x) (x1 : x < lw V (V 1 0)) (hx : (rkL V (V 7) (V 8) (lc V) (lw V (V 1 0)) (-1) (V 2 0)).2.2 x = -1) : dv ((V 7 (V 11 k) - V 7 (V 12 k)) * (flexAt (rkL V (V 7) (V 8) (lc V) (lw V (V 1 0)) (-1) (V 2 0)) V x (V 11 k) 0 - flexAt (rkL V (V 7) (V 8) (lc V) (lw V (V 1 0)) (-1) (V 2 0)) V x (V 12 k) 0) + (V 8 (V 11 k) - V 8 (V 12 k)) * (flexAt (rkL V (V 7) (V 8) (lc V) (lw V (V 1 0)) (-1) (V 2 0)) V x (V 11 k) 1 - flexAt (rkL V (V 7) (V 8) (lc V) (lw V (V 1 0)) (-1) (V 2 0)) V x (V 12 k) 1)) := by
  obtain ⟨n0, n10, m0, m40, hE⟩ := hI.1
  have hl := lOK_lc hI.2.1
  have hR := cn_rng (mKept V (-1)) m0
  obtain ⟨b1, b2, b3, b4, b5, b6⟩ := hE k k0 k1
  obtain ⟨b7, b8⟩ := b6 hk
  have hm : mKept V (-1) k = true := decide_eq_true ⟨hk, by omega⟩
  have hK := sol_ker (A := wr V (V 7) (V 8) (lc V) (-1) (V 2 0)) hR.1 (by omega) (by have := hl.1; omega) (fun r c => wr_rg' r c) x0 x1 hx
  have h1 := hK (cn (mKept V (-1)) k) (cn_rng _ k0).1 (cn_lt k0 k1 hm)
  have e : sm (fun c => wr V (V 7) (V 8) (lc V) (-1) (V 2 0) (cn (mKept V (-1)) k) c * sol (rkL V (V 7) (V 8) (lc V) (lw V (V 1 0)) (-1) (V 2 0)).1 (rkL V (V 7) (V 8) (lc V) (lw V (V 1 0)) (-1) (V 2 0)).2.2 x c) (lw V (V 1 0)) = sm (fun c => rowE (V 7) (V 8) (lc V) (V 11 k) (V 12 k) c * sol (rkL V (V 7) (V 8) (lc V) (lw V (V 1 0)) (-1) (V 2 0)).1 (rkL V (V 7) (V 8) (lc V) (lw V (V 1 0)) (-1) (V 2 0)).2.2 x c) (lw V (V 1 0)) := sm_congr (lw V (V 1 0)).toNat _ (by have := hl.1; omega) fun c _ _ => by
    rw [wr_row k0 hm c (V 2 0).toNat (V 2 0) (by omega) k1]
  have h2 := row_sum hl ⟨b1, b7⟩ ⟨b3, b8⟩ b5 (sol (rkL V (V 7) (V 8) (lc V) (lw V (V 1 0)) (-1) (V 2 0)).1 (rkL V (V 7) (V 8) (lc V) (lw V (V 1 0)) (-1) (V 2 0)).2.2 x)
  rw [← e] at h2
  rw [flexAt_0, flexAt_0, flexAt_1, flexAt_1]
  have h3 : dv (sm (fun c => wr V (V 7) (V 8) (lc V) (-1) (V 2 0) (cn (mKept V (-1)) k) c * sol (rkL V (V 7) (V 8) (lc V) (lw V (V 1 0)) (-1) (V 2 0)).1 (rkL V (V 7) (V 8) (lc V) (lw V (V 1 0)) (-1) (V 2 0)).2.2 x c) (lw V (V 1 0))) := h1
  generalize sm (fun c => wr V (V 7) (V 8) (lc V) (-1) (V 2 0) (cn (mKept V (-1)) k) c * sol (rkL V (V 7) (V 8) (lc V) (lw V (V 1 0)) (-1) (V 2 0)).1 (rkL V (V 7) (V 8) (lc V) (lw V (V 1 0)) (-1) (V 2 0)).2.2 x c) (lw V (V 1 0)) = z at h2 h3
  omega
theorem rowE_col {lx ly col : Int → Int} {n W f t j : Int} (hl : lOK lx ly col n W) (hf : 0 ≤ f ∧ f < n) (ht : 0 ≤ t ∧ t < n) (hft : f ≠ t) (hj : 0 ≤ j ∧ j < n) (hc : col j ≠ -1) : rowE lx ly col f t (col j) = (if f = j then (lx f - lx t) % 1000003 else if t = j then (-(lx f - lx t)) % 1000003 else 0) ∧ rowE lx ly col f t (col j + 1) = (if f = j then (ly f - ly t) % 1000003 else if t = j then (-(ly f - ly t)) % 1000003 else 0) := by
  obtain ⟨W0, W20, hl⟩ := hl
  obtain ⟨-, cj, dj⟩ := hl j hj.1 hj.2
  have cj' := cj.resolve_left hc
  obtain ⟨-, cf, -⟩ := hl f hf.1 hf.2
  obtain ⟨-, ct, -⟩ := hl t ht.1 ht.2
  unfold rowE rowF
  by_cases q : f = j
  · rw [if_pos q, if_pos q]
    have hd := dj t ht.1 ht.2 (fun e => hft (q.trans e.symm))
    rw [q]
    by_cases q2 : col t = -1
    · rw [if_pos q2, if_pos q2, if_neg hc, if_neg hc, if_neg (by omega), if_pos rfl, if_pos rfl]
      exact ⟨rfl, rfl⟩
    · have hd' := hd q2 hc
      rw [if_neg q2, if_neg q2, if_neg (by omega), if_neg (by omega), if_neg hc, if_neg (by omega), if_pos rfl, if_neg (by omega), if_neg (by omega), if_neg hc, if_pos rfl]
      exact ⟨rfl, rfl⟩
  · rw [if_neg q, if_neg q]
    by_cases q2 : t = j
    · rw [if_pos q2, if_pos q2, q2, if_neg hc, if_neg hc, if_neg (by omega), if_pos rfl, if_pos rfl]
      exact ⟨rfl, rfl⟩
    · rw [if_neg q2, if_neg q2]
      have hdf := dj f hf.1 hf.2 q
      have hdt := dj t ht.1 ht.2 q2
      by_cases z1 : col t = -1
      · rw [if_pos z1, if_pos z1]
        by_cases z2 : col f = -1
        · rw [if_pos z2, if_pos z2]; exact ⟨rfl, rfl⟩
        · have := hdf z2 hc
          rw [if_neg z2, if_neg (by omega), if_neg (by omega), if_neg z2, if_neg (by omega), if_neg (by omega)]
          exact ⟨rfl, rfl⟩
      · have := hdt z1 hc
        by_cases z2 : col f = -1
        · rw [if_neg z1, if_neg z1, if_neg (by omega), if_neg (by omega), if_pos z2, if_neg (by omega), if_neg (by omega), if_pos z2]; exact ⟨rfl, rfl⟩
        · have := hdf z2 hc
          rw [if_neg z1, if_neg z1, if_neg (by omega), if_neg (by omega), if_neg z2, if_neg (by omega), if_neg (by omega), if_neg (by omega), if_neg (by omega), if_neg z2, if_neg (by omega), if_neg (by omega)]
          exact ⟨rfl, rfl⟩
theorem sm_rows {p : Int → Bool} {g : Int → Int} : ∀ (d : Nat) (m : Int), m = d → sm (fun k => if p k then g (cn p k) else 0) m = sm g (cn p m) := by
  intro d
  induction d with
  | zero => intro m hm; rw [hm]; rfl
  | succ d ih =>
    intro m hm
    have h1 := sm_s (f := fun k => if p k then g (cn p k) else 0) (i := m - 1) (by omega)
    have h2 := cn_s (p := p) (i := m - 1) (by omega)
    have h3 := (cn_rng p (i := m - 1) (by omega)).1
    rw [Int.sub_add_cancel] at h1 h2
    rw [h1, h2, ih (m - 1) (by omega)]
    by_cases q : p (m - 1) = true
    · rw [if_pos q, if_pos q, sm_s h3]
    · rw [if_neg q, if_neg q, Int.add_zero, Int.add_zero]
theorem cn_kt {V : St} {k : Int} (k0 : 0 ≤ k) : cn (mKept V (-1)) k = cn (mThere V) k := cn_congr fun i i0 _ => by
  unfold mKept mThere
  rw [decide_eq_decide]
  exact ⟨fun z => z.1, fun z => ⟨z, by omega⟩⟩
theorem mK_iff {V : St} {k : Int} (k0 : 0 ≤ k) : mKept V (-1) k = true ↔ V 15 k = 0 := by
  unfold mKept
  rw [decide_eq_true_iff]
  exact ⟨fun z => z.1, fun z => ⟨z, by omega⟩⟩
theorem bal_ker {V : St} {x j : Int} (hI : Inv V) (x0 : 0 ≤ x) (x1 : x < cn (mKept V (-1)) (V 2 0)) (hx : (bl V).2.2 x = -1) (hj : 0 ≤ j ∧ j < V 1 0) (hp : V 9 j = 0) : dv (sm (fun k => if mEnd V j k then sol (bl V).1 (bl V).2.2 x (cn (mThere V) k) * (V 7 j - V 7 (oth V j k)) else 0) (V 2 0)) ∧ dv (sm (fun k => if mEnd V j k then sol (bl V).1 (bl V).2.2 x (cn (mThere V) k) * (V 8 j - V 8 (oth V j k)) else 0) (V 2 0)) := by
  obtain ⟨n0, n10, m0, m40, hE⟩ := hI.1
  have hl := lOK_lc hI.2.1
  obtain ⟨W0, W20, hl'⟩ := id hl
  have hR := cn_rng (mKept V (-1)) m0
  have hc : lc V j ≠ -1 := by
    unfold lc
    rw [if_pos hp]
    have := (cn_rng (fr V) hj.1).1
    omega
  have hcj := (hl' j hj.1 hj.2).2.1.resolve_left hc
  have hK := sol_ker (A := tr (wr V (V 7) (V 8) (lc V) (-1) (V 2 0))) (R := lw V (V 1 0)) (C := cn (mKept V (-1)) (V 2 0)) W0 (by omega) hR.1 (fun r c => wr_rg' c r) x0 x1 hx
  have hcol : ∀ c, 0 ≤ c → c < lw V (V 1 0) → dv (sm (fun k => if mKept V (-1) k then wr V (V 7) (V 8) (lc V) (-1) (V 2 0) (cn (mKept V (-1)) k) c * sol (bl V).1 (bl V).2.2 x (cn (mKept V (-1)) k) else 0) (V 2 0)) := fun c c0 c1 => by
    have h1 := hK c c0 c1
    have h2 := sm_rows (p := mKept V (-1)) (g := fun r => wr V (V 7) (V 8) (lc V) (-1) (V 2 0) r c * sol (bl V).1 (bl V).2.2 x r) (V 2 0).toNat (V 2 0) (by omega)
    rw [h2]
    exact h1
  have hpt : ∀ (g : Nat) (c : Int), (∀ k, 0 ≤ k → k < V 2 0 → V 15 k = 0 → dv (rowE (V 7) (V 8) (lc V) (V 11 k) (V 12 k) c - (if V 11 k = j then V g (V 11 k) - V g (V 12 k) else if V 12 k = j then -(V g (V 11 k) - V g (V 12 k)) else 0))) → dv (sm (fun k => if mKept V (-1) k then wr V (V 7) (V 8) (lc V) (-1) (V 2 0) (cn (mKept V (-1)) k) c * sol (bl V).1 (bl V).2.2 x (cn (mKept V (-1)) k) else 0) (V 2 0)) → dv (sm (fun k => if mEnd V j k then sol (bl V).1 (bl V).2.2 x (cn (mThere V) k) * (V g j - V g (oth V j k)) else 0) (V 2 0)) := fun g c h1 h2 => by
    have h3 : dv (sm (fun k => (if mKept V (-1) k then wr V (V 7) (V 8) (lc V) (-1) (V 2 0) (cn (mKept V (-1)) k) c * sol (bl V).1 (bl V).2.2 x (cn (mKept V (-1)) k) else 0) - (if mEnd V j k then sol (bl V).1 (bl V).2.2 x (cn (mThere V) k) * (V g j - V g (oth V j k)) else 0)) (V 2 0)) := sm_dvn m0 fun k k0 k1 => by
      by_cases q : V 15 k = 0
      · have qm := (mK_iff k0).2 q
        obtain ⟨b1, b2, b3, b4, b5, b6⟩ := hE k k0 k1
        rw [if_pos qm, wr_row k0 qm c (V 2 0).toNat (V 2 0) (by omega) k1, cn_kt k0]
        have h4 := h1 k k0 k1 q
        generalize sol (bl V).1 (bl V).2.2 x (cn (mThere V) k) = u
        have h5 : dv ((rowE (V 7) (V 8) (lc V) (V 11 k) (V 12 k) c - (if V 11 k = j then V g (V 11 k) - V g (V 12 k) else if V 12 k = j then -(V g (V 11 k) - V g (V 12 k)) else 0)) * u) := dv_ml h4
        rw [Int.sub_mul] at h5
        by_cases q1 : V 11 k = j
        · rw [if_pos q1] at h5
          rw [if_pos (show mEnd V j k = true from decide_eq_true ⟨q, Or.inl q1⟩)]
          unfold oth
          rw [if_pos q1, Int.mul_comm u]
          rw [q1] at h5 ⊢
          exact h5
        · rw [if_neg q1] at h5
          by_cases q2 : V 12 k = j
          · rw [if_pos q2] at h5
            rw [if_pos (show mEnd V j k = true from decide_eq_true ⟨q, Or.inr q2⟩)]
            unfold oth
            rw [if_neg q1, Int.mul_comm u]
            rw [q2] at h5 ⊢
            rw [show V g j - V g (V 11 k) = -(V g (V 11 k) - V g j) by omega]
            exact h5
          · rw [if_neg q2, Int.zero_mul, Int.sub_zero] at h5
            rw [if_neg (show ¬ mEnd V j k = true from fun z => by
              have := of_decide_eq_true z
              omega), Int.sub_zero]
            exact h5
      · rw [if_neg (fun z => q ((mK_iff k0).1 z)), if_neg (show ¬ mEnd V j k = true from fun z => q (of_decide_eq_true z).1), Int.sub_self]
        exact dv_0
    rw [sm_subn m0] at h3
    omega
  have hrow : ∀ k, 0 ≤ k → k < V 2 0 → V 15 k = 0 → _ := fun k k0 k1 q => by
    obtain ⟨b1, b2, b3, b4, b5, b6⟩ := hE k k0 k1
    obtain ⟨b7, b8⟩ := b6 q
    exact rowE_col hl ⟨b1, b7⟩ ⟨b3, b8⟩ b5 hj hc
  refine ⟨hpt 7 (lc V j) (fun k k0 k1 q => ?_) (hcol _ hcj.1 (by omega)), hpt 8 (lc V j + 1) (fun k k0 k1 q => ?_) (hcol _ (by omega) (by omega))⟩
  · rw [(hrow k k0 k1 q).1]
    split
    · omega
    · split
      · omega
      · exact ⟨0, rfl⟩
  · rw [(hrow k k0 k1 q).2]
    split
    · omega
    · split
      · omega
      · exact ⟨0, rfl⟩
end FLX
